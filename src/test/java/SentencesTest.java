import java.nio.file.Files;
import java.nio.file.Path;
import java.util.ArrayList;
import java.util.Arrays;
import java.util.Comparator;
import java.util.List;
import java.util.regex.Matcher;
import java.util.regex.Pattern;

/**
 * src/test/SENTENCES.md: its sentences stand in the document, its tests in the project, and nothing that the document
 * says is left out.
 */
public final class SentencesTest {
    private static final Path DOCUMENT = Path.of("../shared/DOC.md");
    private static final Path TABLE = Path.of("src/test/SENTENCES.md");
    private static final Path TESTS = Path.of("src/test/java");
    private static final int PROMISES = 36;
    /** A row of a sentence that promises nothing; what stands behind it tells why. */
    private static final String UNTESTED = "nothing: ";
    // What FaceTest compares with the class by itself: the code of the face and of each promise, and the headings
    // inside the face; and the document's own headings.
    private static final Pattern ELSEWHERE = Pattern.compile(
            "(?ms)^```java$.*?^```$|^#.*?$|^`(int \\w+|SheetVault)\\([^`]*`:|^Ahead of the calls .*?$");

    private final Checks checks = new Checks();
    private final String document;
    /** What is ahead of the promises, then each promise, and then what is behind them; what a row tells is blanked. */
    private final List<String> left = new ArrayList<>();

    private SentencesTest() throws Exception {
        document = ELSEWHERE.matcher(Files.readString(DOCUMENT)).replaceAll("");
        for (String part : Files.readString(DOCUMENT).split("(?m)^(?=## Promise |## Not promised)")) {
            left.add(ELSEWHERE.matcher(part).replaceAll(""));
        }
    }

    public static void main(String[] args) throws Exception {
        SentencesTest test = new SentencesTest();
        test.checks.is("parts of the document", test.left.size(), PROMISES + 2);
        List<String[]> rows = rowsOfTheTable();
        // A sentence may stand in a longer one, which is then blanked as a whole.
        rows.sort(Comparator.comparing(cells -> -cells[cells.length - 2].length()));
        for (String[] cells : rows) {
            test.row(cells);
        }
        test.lookAtWhatIsLeft();
        Rows.end(test.checks);
    }

    private static List<String[]> rowsOfTheTable() throws Exception {
        List<String[]> rows = new ArrayList<>();
        for (String line : Files.readAllLines(TABLE)) {
            String[] cells = line.split("\\s*\\|\\s*");
            boolean head = cells.length < 3 || cells[1].startsWith("---") || cells[cells.length - 1].equals("Tests");
            if (!head) {
                rows.add(cells);
            }
        }
        return rows;
    }

    private void row(String[] cells) throws Exception {
        String sentence = cells[cells.length - 2];
        checks.holds("it is not in the document: " + sentence, document.contains(sentence));
        String tests = cells[cells.length - 1];
        for (String test : tests.startsWith(UNTESTED) ? new String[0] : tests.split(", ")) {
            checks.holds("there is no test " + test, test.equals("rows") || stands(test));
        }
        if (cells.length == 4) {
            blankInPromises(cells[1], sentence);
        } else {
            blank(0, sentence);
            blank(PROMISES + 1, sentence);
        }
    }

    private static boolean stands(String test) throws Exception {
        String[] parts = test.split("\\.");
        Path file = TESTS.resolve(parts[0] + ".java");
        return Files.exists(file) && Files.readString(file).contains(" " + parts[1] + "(");
    }

    /** "3", "3 to 5" or "16, 17": each of these promises says it; "2 to 36": some of them do. */
    private void blankInPromises(String text, String sentence) {
        Matcher range = Pattern.compile("(\\d+) to (\\d+)").matcher(text);
        List<Integer> promises = new ArrayList<>();
        boolean isRange = range.matches();
        if (isRange) {
            int last = Integer.parseInt(range.group(2));
            for (int promise = Integer.parseInt(range.group(1)); promise <= last; promise++) {
                promises.add(promise);
            }
        } else {
            Arrays.stream(text.split(", ")).map(Integer::parseInt).forEach(promises::add);
        }
        boolean some = isRange && promises.contains(PROMISES);
        int found = 0;
        for (int promise : promises) {
            boolean says = blank(promise, sentence);
            checks.holds("the promise " + promise + " does not say: " + sentence, says || some);
            found += says ? 1 : 0;
        }
        checks.holds("no promise says: " + sentence, found > 0);
    }

    private boolean blank(int part, String sentence) {
        String text = left.get(part);
        // A sign that is no letter keeps what stands on both sides of it apart.
        left.set(part, text.replace(sentence, "~"));
        return text.contains(sentence);
    }

    private void lookAtWhatIsLeft() {
        for (String part : left) {
            for (String piece : part.split("[~\n]")) {
                boolean words = piece.chars().anyMatch(Character::isLetterOrDigit);
                checks.holds("no test is told for: " + piece, !words);
            }
        }
    }
}
