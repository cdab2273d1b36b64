import java.io.IOException;
import java.lang.reflect.Method;
import java.lang.reflect.Modifier;
import java.nio.file.Files;
import java.nio.file.Path;
import java.util.regex.Matcher;
import java.util.regex.Pattern;

/** README.md says how to use the class: its example answers what it says there, and no call is left out. */
public final class ReadmeTest {
    private static final Pattern LINE =
        Pattern.compile("yard\\.(\\w+)\\((.*)\\); +// (answers |throws )([^:]+)(: .+)?");
    private static final Pattern SIGN = Pattern.compile("'(.)'");

    private final Checks checks = new Checks();

    /** A call as Run wants it: "append('2')" is "append 50". */
    private static String asWords(String name, String arguments) {
        String numbers = SIGN.matcher(arguments).replaceAll(found -> String.valueOf((int) found.group(1).charAt(0)));
        return (name + " " + numbers.replace(", ", " ")).trim();
    }

    private void example(String readme) {
        int from = readme.indexOf("```java\n");
        int to = readme.indexOf("\n```", from + 1);
        checks.due("README.md has an example", true, () -> from >= 0 && to > from);
        String[] lines = readme.substring(from, to).split("\n");
        checks.due("the example begins with a new object", true,
            () -> lines[1].startsWith("SlantYard yard = new SlantYard();"));
        Run run = new Run();
        for (int number = 2; number < lines.length; number++) {
            Matcher line = LINE.matcher(lines[number]);
            if (line.matches()) {
                String want = line.group(3).equals("throws ") ? "throws." + line.group(4) : line.group(4);
                checks.same("README.md: " + lines[number], want, run.told(asWords(line.group(1), line.group(2))));
            } else {
                checks.same("README.md, a line of the example", "a call with its answer", lines[number]);
            }
        }
    }

    private void allCalls(String readme) {
        for (Method method : SlantYard.class.getDeclaredMethods()) {
            if (Modifier.isPublic(method.getModifiers())) {
                checks.due("README.md names " + method.getName(), true,
                    () -> readme.contains("`" + method.getName() + "`"));
            }
        }
    }

    public static void main(String[] args) throws IOException {
        ReadmeTest test = new ReadmeTest();
        String readme = Files.readString(Path.of("README.md"));
        test.example(readme);
        test.allCalls(readme);
        test.checks.end();
    }
}
