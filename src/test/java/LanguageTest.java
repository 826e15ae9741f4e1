import java.nio.file.Files;
import java.nio.file.Path;
import java.util.List;
import java.util.Set;
import java.util.regex.Matcher;
import java.util.regex.Pattern;
import java.util.stream.Collectors;
import java.util.stream.Stream;

/** What can be seen in the text of the class of the rules in ../shared/LANGUAGE.md. */
public final class LanguageTest {
    private static final Path SOURCES = Path.of("src/main/java");
    private static final Path SOURCE = SOURCES.resolve("SheetVault.java");
    private static final Set<String> TYPES = Set.of("SheetVault", "Sheet", "Version", "Entry", "Said", "Answer",
            "Math", "Integer", "IllegalStateException", "IllegalArgumentException", "IndexOutOfBoundsException");
    private static final Set<String> LIBRARY = Set.of("Math.max", "Math.min", "Math.abs", "Integer.bitCount");
    private static final String[] FORBIDDEN = {
        "->", "::", "\\bimport\\b", "\\bpackage\\b", "\\bfinally\\b", "\\bsynchronized\\b", "\\bassert\\b", "\\bvar\\b",
        "\\bcatch\\b", "\\bprotected\\b", "\\bdouble\\b", "\\bfloat\\b", "static\\s*\\{", "@",
    };
    private static final Pattern METHOD = Pattern.compile("^ {4,8}[\\w\\[\\] ]+\\(([^)]*)\\)[\\w\\s,]*\\{$");

    public static void main(String[] args) throws Exception {
        Checks checks = new Checks();
        try (Stream<Path> files = Files.walk(SOURCES)) {
            checks.is("files of the program", (int) files.filter(Files::isRegularFile).count(), 1);
        }
        String text = Files.readString(SOURCE);
        checks.holds("its signs are 1 to 127", text.chars().allMatch(sign -> sign >= 1 && sign <= 127));
        String code = text.replaceAll("(?s)/\\*.*?\\*/", "").replaceAll("//.*", "");
        checks.holds("no text is joined by +", !code.matches("(?s).*(\"\\s*\\+|\\+\\s*\").*"));
        code = code.replaceAll("\"[^\"]*\"", "\"\"");
        words(checks, code);
        methods(checks, code.lines().collect(Collectors.toList()));
        Rows.end(checks);
    }

    private static void words(Checks checks, String code) {
        for (String forbidden : FORBIDDEN) {
            checks.holds("it holds " + forbidden, !Pattern.compile(forbidden).matcher(code).find());
        }
        Matcher types = Pattern.compile("\\b[A-Z]\\w*[a-z]\\w*").matcher(code);
        while (types.find()) {
            checks.holds("it uses " + types.group(), TYPES.contains(types.group()));
        }
        Matcher library = Pattern.compile("\\b(Math|Integer)\\s*\\.\\s*\\w+").matcher(code);
        while (library.find()) {
            checks.holds("it uses " + library.group(), LIBRARY.contains(library.group()));
        }
    }

    private static void methods(Checks checks, List<String> lines) {
        int methods = 0;
        int begin = -1;
        for (int line = 0; line < lines.size(); line++) {
            String head = lines.get(line);
            if (head.contains(" throws ") && line > 0 && !head.contains("(")) {
                head = lines.get(line - 1) + " " + head.trim();
            }
            Matcher method = METHOD.matcher(head);
            if (method.matches() && !head.contains(" new ") && !head.matches(" +(if|for|while|else|switch|do)\\b.*")) {
                begin = line;
                methods++;
                checks.holds("too many parameters: " + head, method.group(1).split(",").length <= 7);
            }
            if (begin >= 0 && lines.get(line).matches(" {4,8}\\}")) {
                checks.holds("too long: " + lines.get(begin), line - begin < 60);
                begin = lines.get(line).startsWith("        ") ? begin : -1;
            }
        }
        checks.holds("methods were found", methods > 100);
    }
}
