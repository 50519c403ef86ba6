import java.io.IOException;
import java.nio.file.Files;
import java.nio.file.Path;
import java.util.ArrayList;
import java.util.List;

/** The code block of the document: the class's head and the members that it asks for. */
final class Document {
    private static final Path FILE = Path.of("../shared/DOC.md");
    private static final String BLOCK = "```java\n";

    private Document() {
    }

    private static String[] lines() throws IOException {
        String text = Files.readString(FILE);
        int start = text.indexOf(BLOCK) + BLOCK.length();
        return text.substring(start, text.indexOf("\n```", start)).split("\n");
    }

    static String head() throws IOException {
        return lines()[0].replace(" {", "").trim();
    }

    /** The members without the names of their parameters: "public int put(int, int)". */
    static List<String> face() throws IOException {
        List<String> members = new ArrayList<>();
        for (String member : membersAsTold()) {
            members.add(member.replaceAll("(\\w+) \\w+(?=[,)])", "$1"));
        }
        return members;
    }

    /** The calls as one writes them: "put(walker, room)". */
    static List<String> calls() throws IOException {
        List<String> calls = new ArrayList<>();
        for (String member : membersAsTold()) {
            String call = member.replaceAll("\\w+ (\\w+)(?=[,)])", "$1").replaceAll("^.* (\\w+\\()", "$1");
            calls.add(call.startsWith("SmellHowLong(") ? "new " + call : call);
        }
        return calls;
    }

    private static List<String> membersAsTold() throws IOException {
        List<String> members = new ArrayList<>();
        for (String line : lines()) {
            if (line.trim().endsWith(";")) {
                members.add(line.trim().replace(";", ""));
            }
        }
        return members;
    }
}
