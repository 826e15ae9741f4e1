import java.nio.file.Files;
import java.nio.file.Path;
import java.util.HashSet;
import java.util.Set;
import java.util.regex.Matcher;
import java.util.regex.Pattern;
import java.util.stream.Stream;

/** What can be seen in the text of the class of the rules in ../shared/LANGUAGE.md. */
public final class LanguageTest {
    private static final Path SOURCES = Path.of("src/main/java");
    private static final Path SOURCE = SOURCES.resolve("SheetVault.java");
    private static final Set<String> EXCEPTIONS = Set.of("IllegalStateException", "IllegalArgumentException",
            "IndexOutOfBoundsException", "ArithmeticException", "UnsupportedOperationException",
            "NoSuchElementException", "RuntimeException");
    /** Those that may be caught: the machine throws none of them, nor one below them. */
    private static final Set<String> CAUGHT = Set.of("IllegalStateException", "IllegalArgumentException",
            "UnsupportedOperationException");
    private static final Set<String> LIBRARY = Set.of("String", "StringBuilder", "Integer", "Long", "Math", "ArrayList",
            "List", "Iterator", "Iterable", "Comparable", "System", "Arrays", "Override");
    private static final String[] FORBIDDEN = {
        "::", "\\bpackage\\b", "\\bfinally\\b", "\\bsynchronized\\b", "\\bassert\\b", "\\bprotected\\b",
        "static\\s*\\{", "@(?!Override)", "\\bimport\\s+(?!java\\.util\\.\\w+;)", "\\w+Exact\\b",
        "\\bSystem\\.(?!arraycopy)", "\\bArrays\\.(?!copyOf|copyOfRange|fill)", "\\bRandom\\b", "\\bThread\\b",
    };
    private static final int MOST_LINES = 60;
    private static final int MOST_PARAMETERS = 7;

    public static void main(String[] args) throws Exception {
        Checks checks = new Checks();
        try (Stream<Path> files = Files.walk(SOURCES)) {
            checks.is("files of the program", (int) files.filter(Files::isRegularFile).count(), 1);
        }
        String text = Files.readString(SOURCE);
        checks.holds("its signs are 1 to 127", text.chars().allMatch(sign -> sign >= 1 && sign <= 127));
        String code = text.replaceAll("(?s)/\\*.*?\\*/", "").replaceAll("//.*", "");
        checks.holds("no text is joined by +", !code.matches("(?s).*(\"\\s*\\+|\\+\\s*\").*"));
        code = code.replaceAll("\"[^\"]*\"", "\"\"");
        words(checks, code);
        thrown(checks, code);
        methods(checks, code);
        Rows.end(checks);
    }

    private static void words(Checks checks, String code) {
        for (String forbidden : FORBIDDEN) {
            checks.holds("it holds " + forbidden, !Pattern.compile(forbidden).matcher(code).find());
        }
        for (String line : code.split("\n")) {
            checks.holds("a lambda: " + line, !line.contains("->") || line.matches("\\s*(case|default)\\b.*"));
        }
        Set<String> own = new HashSet<>();
        Matcher classes = Pattern.compile("\\b(class|record|enum|interface)\\s+(\\w+)").matcher(code);
        while (classes.find()) {
            own.add(classes.group(2));
        }
        Matcher types = Pattern.compile("\\b[A-Z]\\w*[a-z]\\w*").matcher(code);
        while (types.find()) {
            String type = types.group();
            boolean known = own.contains(type) || LIBRARY.contains(type) || EXCEPTIONS.contains(type);
            checks.holds("it uses " + type, known);
        }
    }

    private static void thrown(Checks checks, String code) {
        Matcher throwing = Pattern.compile("\\bthrow\\b\\s*(new\\s+(\\w+)\\s*\\((\"\")?\\))?").matcher(code);
        while (throwing.find()) {
            String type = String.valueOf(throwing.group(2));
            checks.holds("it throws " + throwing.group(), EXCEPTIONS.contains(type));
        }
        Matcher catching = Pattern.compile("\\bcatch\\s*\\(\\s*(final\\s+)?(\\w+)").matcher(code);
        while (catching.find()) {
            checks.holds("it catches " + catching.group(2), CAUGHT.contains(catching.group(2)));
        }
    }

    /** A method begins where a name, parameters and perhaps exceptions stand ahead of a brace. */
    private static void methods(Checks checks, String code) {
        Pattern head = Pattern.compile("(\\w+)\\s+(\\w+)\\s*\\(([^()]*)\\)\\s*(throws[\\w\\s,]+)?\\{");
        Matcher method = head.matcher(code);
        int methods = 0;
        while (method.find()) {
            if (Set.of("new", "else", "return").contains(method.group(1))) {
                continue;
            }
            methods++;
            int parameters = method.group(3).isBlank() ? 0 : method.group(3).split(",").length;
            checks.holds("too many parameters: " + method.group(2), parameters <= MOST_PARAMETERS);
            int lines = (int) code.substring(method.start(), endOf(code, method.end())).lines().count();
            checks.holds("too long: " + method.group(2), lines <= MOST_LINES);
        }
        checks.holds("methods were found", methods >= 35);
    }

    /** The place behind the brace that closes the one ahead of this place. */
    private static int endOf(String code, int begin) {
        int open = 1;
        int at = begin;
        while (at < code.length() && open > 0) {
            open += code.charAt(at) == '{' ? 1 : code.charAt(at) == '}' ? -1 : 0;
            at++;
        }
        return at;
    }
}
