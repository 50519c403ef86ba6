import java.io.IOException;
import java.lang.reflect.Field;
import java.lang.reflect.Modifier;
import java.nio.charset.StandardCharsets;
import java.nio.file.Files;
import java.nio.file.Path;
import java.util.Set;
import java.util.TreeSet;
import java.util.regex.Matcher;
import java.util.regex.Pattern;

/** The rules of LANGUAGE.md that reflection and a text search can see; its face: FaceTest. */
public final class LanguageTest {
    private static final Due DUE = new Due("LanguageTest");
    private static final Path SOURCE = Path.of("src/main/java/SmellHowLong.java");

    public static void main(String[] args) throws IOException {
        fields(SmellHowLong.class);
        nestedClasses();
        String source = Files.readString(SOURCE, StandardCharsets.ISO_8859_1);
        DUE.is("signs from 1 to 127 alone", source.chars().filter(c -> c > 127).count(), 0);
        words(source.replaceAll("(?s)/\\*.*?\\*/", " ").replaceAll("//[^\n]*", " ").replaceAll("\"[^\"\n]*\"", "\"\""));
        methodLengths(source);
        DUE.end();
    }

    private static void holds(String rule, boolean held) {
        DUE.is(rule, held ? 1 : 0, 1);
    }

    private static void nestedClasses() {
        holds("few classes", SmellHowLong.class.getDeclaredClasses().length < 12);
        for (Class<?> inside : SmellHowLong.class.getDeclaredClasses()) {
            fields(inside);
        }
    }

    private static void fields(Class<?> c) {
        int own = 0;
        for (Field f : c.getDeclaredFields()) {
            holds(f + " is private", Modifier.isPrivate(f.getModifiers()));
            if (Modifier.isStatic(f.getModifiers())) {
                holds(f + " is final", Modifier.isFinal(f.getModifiers()));
            } else {
                own++;
            }
        }
        holds(c + " has few fields", own <= 20);
    }

    private static void words(String code) {
        String[] forbidden = {"throw", "throws", "try", "catch", "finally", "synchronized", "assert", "import",
            "package", "protected", "volatile", "transient", "native", "lambda", "yield", "Object", "Random",
            "Thread", "Override", "hashCode", "toString", "values", "HashMap", "Map", "Set", "float", "double"};
        for (String word : forbidden) {
            holds("no " + word, !Pattern.compile("\\b" + word + "\\b").matcher(code).find());
        }
        for (String sign : new String[] {"->", "::", "@", "MAX_VALUE", "Exact("}) {
            holds("no " + sign, !code.contains(sign));
        }
        Matcher library = Pattern.compile("\\b(System|Integer|Math|Long|Arrays|String|StringBuilder|List)\\b(\\.\\w+)?")
                .matcher(code);
        Set<String> used = new TreeSet<>();
        while (library.find()) {
            used.add(library.group());
        }
        used.removeAll(Set.of("System.arraycopy", "Integer.bitCount", "Math.min", "Math.max", "String"));
        holds("of the library only what is listed: " + used, used.isEmpty());
        holds("new objects only in fields: no garbage in calls", Pattern.compile("(?m)^.*\\bnew\\b.*$").matcher(code)
                .results().allMatch(line -> line.group().contains("private final ")));
    }

    private static void methodLengths(String source) {
        int start = 0;
        int line = 0;
        int longest = 0;
        for (String text : source.split("\n")) {
            line++;
            if (text.matches(" {4}( {4})?[a-zA-Z].*\\) \\{") && !text.contains(" if ") && !text.contains(" for ")) {
                start = line;
            } else if (text.matches(" {4}( {4})?\\}") && start > 0) {
                longest = Math.max(longest, line - start + 1);
            }
        }
        holds("the longest method has " + longest + " lines", longest > 10 && longest <= 60);
    }
}
