import java.nio.file.Files;
import java.nio.file.Path;
import java.util.HashSet;
import java.util.Set;
import java.util.regex.Matcher;
import java.util.regex.Pattern;

/** src/test/SENTENCES.md: its sentences stand in the document, its tests in the project, and no promise is left out. */
public final class SentencesTest {
    private static final Path DOCUMENT = Path.of("../shared/DOC.md");
    private static final Path TABLE = Path.of("src/test/SENTENCES.md");
    private static final Path TESTS = Path.of("src/test/java");

    public static void main(String[] args) throws Exception {
        Checks checks = new Checks();
        String document = Files.readString(DOCUMENT);
        Set<Integer> promises = new HashSet<>();
        for (String line : Files.readAllLines(TABLE)) {
            String[] cells = line.split("\\s*\\|\\s*");
            if (cells.length < 3 || cells[1].startsWith("---") || cells[cells.length - 1].equals("Tests")) {
                continue;
            }
            String sentence = cells[cells.length - 2];
            checks.holds("it is not in the document: " + sentence, document.contains(sentence));
            for (String test : cells[cells.length - 1].split(", ")) {
                checks.holds("there is no test " + test, test.equals("rows") || stands(test));
            }
            if (cells.length == 4) {
                addPromises(promises, cells[1]);
            }
        }
        for (int promise = 1; promise <= 36; promise++) {
            checks.holds("nothing stands for the promise " + promise, promises.contains(promise));
        }
        Rows.end(checks);
    }

    private static boolean stands(String test) throws Exception {
        String[] parts = test.split("\\.");
        Path file = TESTS.resolve(parts[0] + ".java");
        return Files.exists(file) && Files.readString(file).contains(" " + parts[1] + "(");
    }

    /** "3", "3 to 5" or "16, 17"; a range over all promises does not count. */
    private static void addPromises(Set<Integer> promises, String text) {
        Matcher range = Pattern.compile("(\\d+) to (\\d+)").matcher(text);
        if (!range.matches()) {
            for (String number : text.split(", ")) {
                promises.add(Integer.parseInt(number));
            }
            return;
        }
        int first = Integer.parseInt(range.group(1));
        int last = Integer.parseInt(range.group(2));
        for (int promise = first; promise <= last && last < 36; promise++) {
            promises.add(promise);
        }
    }
}
