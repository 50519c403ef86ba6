import java.io.File;
import java.io.IOException;
import java.lang.reflect.Method;
import java.nio.file.Files;
import java.nio.file.Path;
import java.util.Arrays;
import java.util.Set;
import java.util.TreeSet;
import java.util.regex.Matcher;
import java.util.regex.Pattern;

/** README.md says the truth: its calls answer what stands behind them, and no call and no test is left out. */
public final class ReadmeTest {
    private static final Due DUE = new Due("ReadmeTest");
    private static final Pattern LETTERS =
            Pattern.compile("for \\(char c : \"([^\"]*)\"\\.toCharArray\\(\\)\\) x\\.letter\\(c\\);");
    private static final Pattern NUMBERS =
            Pattern.compile("for \\(int v : new int\\[\\] \\{([^}]*)\\}\\) x\\.row\\(v\\);");
    private static final Pattern CALL = Pattern.compile("x\\.(\\w+)\\(([^)]*)\\); +// (-?\\d+)\\b.*");

    private static final SmellHowLong X = new SmellHowLong();
    private static final Set<String> ASKED = new TreeSet<>();

    public static void main(String[] args) throws IOException, ReflectiveOperationException {
        String readme = Files.readString(Path.of("README.md"));
        int start = readme.indexOf("```java\n") + "```java\n".length();
        for (String line : readme.substring(start, readme.indexOf("\n```", start)).split("\n")) {
            exampleLine(line);
        }
        for (String call : Document.calls()) {
            holds(call + " has a row", readme.contains("\n| `" + call + "` | "));
            String name = call.substring(0, call.indexOf('('));
            holds(call + " is in the example", ASKED.contains(name) || name.startsWith("new "));
        }
        for (String file : new File("src/test/java").list()) {
            if (file.endsWith("Test.java")) {
                holds(file + " is named", readme.contains("`" + file.replace(".java", "") + "`"));
            }
        }
        holds("how to run the tests", readme.contains("\n    .ci/run\n"));
        DUE.end();
    }

    private static void holds(String rule, boolean held) {
        DUE.is(rule, held ? 1 : 0, 1);
    }

    private static void exampleLine(String line) throws ReflectiveOperationException {
        Matcher letters = LETTERS.matcher(line);
        Matcher numbers = NUMBERS.matcher(line);
        Matcher call = CALL.matcher(line);
        if (letters.matches()) {
            letters.group(1).chars().forEach(X::letter);
            ASKED.add("letter");
        } else if (numbers.matches()) {
            Arrays.stream(ints(numbers.group(1))).forEach(X::row);
            ASKED.add("row");
        } else if (call.matches()) {
            DUE.is(line, answer(call.group(1), ints(call.group(2))), Integer.parseInt(call.group(3)));
            ASKED.add(call.group(1));
        } else {
            holds(line + " is understood", line.isEmpty() || line.equals("SmellHowLong x = new SmellHowLong();"));
        }
    }

    private static int[] ints(String list) {
        return Arrays.stream(list.split(", ")).filter(n -> !n.isEmpty()).mapToInt(Integer::parseInt).toArray();
    }

    private static int answer(String name, int[] arguments) throws ReflectiveOperationException {
        Class<?>[] types = new Class<?>[arguments.length];
        Arrays.fill(types, int.class);
        Method method = SmellHowLong.class.getMethod(name, types);
        return (Integer) method.invoke(X, Arrays.stream(arguments).boxed().toArray());
    }
}
