import java.lang.reflect.Method;
import java.lang.reflect.Modifier;
import java.nio.file.Files;
import java.nio.file.Path;
import java.util.Arrays;
import java.util.regex.Matcher;
import java.util.regex.Pattern;

/** What README.md tells of the class: the answers of its example, and that every call is named. */
public final class ReadmeTest {
    private static final Path README = Path.of("README.md");
    private static final String FIRST = "SheetVault vault = new SheetVault();";
    private static final Pattern CALL = Pattern.compile(
            "vault\\.(\\w+)\\(([-\\d, ]*)\\); +// (throws (\\w+)|-?\\d+): .+");

    public static void main(String[] args) throws Exception {
        Checks checks = new Checks();
        String readme = Files.readString(README);
        Matcher block = Pattern.compile("(?s)```java\n(.*?)```").matcher(readme);
        checks.holds("it has an example", block.find());
        example(checks, block.group(1).split("\n"));
        for (Method method : SheetVault.class.getDeclaredMethods()) {
            boolean isNamed = readme.contains("`" + method.getName() + "`");
            checks.holds("it does not name " + method, isNamed || !Modifier.isPublic(method.getModifiers()));
        }
        checks.holds("it tells how to run the tests", readme.contains("    .ci/run\n"));
        Rows.end(checks);
    }

    private static void example(Checks checks, String[] lines) {
        checks.holds("it begins with a new object", lines[0].equals(FIRST));
        Vault vault = new Vault();
        for (String line : Arrays.copyOfRange(lines, 1, lines.length)) {
            Matcher call = CALL.matcher(line);
            if (call.matches()) {
                String got = CallTable.answerOf(vault, call.group(1), valuesOf(call.group(2)));
                String due = call.group(4) == null ? call.group(3) : "java.lang." + call.group(4);
                checks.holds(line + " answered " + got, got.equals(due));
            } else {
                checks.holds("no call: " + line, line.isEmpty() || line.startsWith("// "));
            }
        }
    }

    private static int[] valuesOf(String arguments) {
        if (arguments.isEmpty()) {
            return new int[0];
        }
        return Arrays.stream(arguments.split(", ")).mapToInt(Integer::parseInt).toArray();
    }
}
