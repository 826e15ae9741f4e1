import java.util.ArrayList;
import java.util.Arrays;
import java.util.List;
import java.util.Random;

/**
 * All promises: runs of 512 calls, drawn by fixed seeds, on the class and on PlainVault, answer by answer. They are
 * drawn by the state of PlainVault, so that the class gets no more calls than the document promises.
 */
public final class RandomRunsTest {
    private static final int RUNS = 600;

    /** A call: its name, how often it is drawn, and what its arguments are. */
    private static final String[] CALLS_DRAWN = {
        "addSheet 1", "setNumber 2 group sheet task points number slack", "setChoice 2 group sheet task points signs",
        "setWords 3 group sheet task points row", "drop 2 group sheet task", "adopt 8 group sheet version",
        "fold 8 sheet version", "sheets 1", "versions 1 sheet", "head 1 group sheet", "parent 2 sheet version",
        "kindOf 2 sheet version task", "toldIn 2 sheet version task", "points 2 sheet version",
        "mendNumber 6 sheet version number-task number slack", "mendChoice 6 sheet version choice-task signs",
        "mendWords 12 sheet version words-task row", "open 30 pupil sheet", "say 2 pupil sheet task said",
        "say 180 speaker its-sheet task said", "hand 1 pupil sheet", "hand 10 speaker its-sheet",
        "close 1 group sheet", "answer 1 pupil sheet", "mark 3 pupil sheet",
        "due 6 pupil sheet", "told 3 pupil sheet", "average 3 group sheet", "fingerprints 4 pupil sheet",
        "withPrint 4 sheet print", "likeness 6 sheet pupil pupil", "pairs 3 sheet", "pairAt 6 sheet place",
        "pairsAnew 3 sheet", "setQuota 2 group quota", "used 2 group", "usedAnew 2 group",
    };

    private final Random random;
    private final List<String[]> drawn = new ArrayList<>();
    private final Vault vault = new Vault();
    private final PlainVault plain = new PlainVault();
    private Vault asked = null;
    private int words = 4;
    private int sheet = 0;

    private RandomRunsTest(long seed) {
        random = new Random(seed);
        for (String call : CALLS_DRAWN) {
            String[] parts = call.split(" ");
            for (int times = Integer.parseInt(parts[1]); times > 0; times--) {
                drawn.add(parts);
            }
        }
        words = 2 + random.nextInt(3);
    }

    public static void main(String[] args) {
        Checks checks = new Checks();
        for (int run = 0; run < RUNS; run++) {
            new RandomRunsTest(run).run(checks, run);
        }
        Rows.end(checks);
    }

    private void run(Checks checks, int run) {
        begin(checks, run);
        while (vault.callsLeft() > 0) {
            String[] parts = drawn.get(random.nextInt(drawn.size()));
            int[] args = new int[parts.length - 2];
            for (int place = 0; place < args.length; place++) {
                args[place] = draw(parts[place + 2]);
            }
            if (!same(checks, run, parts[0], args)) {
                return;
            }
        }
        sameAtTheEnd(checks, run);
    }

    /** Gives most versions of a sheet tasks, so that there is something to say. */
    private void begin(Checks checks, int run) {
        int most = random.nextInt(2);
        boolean wide = random.nextInt(4) != 0;
        for (int group = 0; group < 4 && wide; group++) {
            same(checks, run, "setQuota", group, 1000);
        }
        for (int sheet = 0; sheet <= most; sheet++) {
            same(checks, run, "addSheet");
            same(checks, run, "setWords", 0, sheet, 0, 10, row());
            same(checks, run, "setNumber", 0, sheet, 1, 5, 2, 1);
            same(checks, run, "setChoice", 0, sheet, 2, 6, random.nextInt(32));
            same(checks, run, "setWords", 0, sheet, 3, 9, row());
            for (int group = 1; group < 4; group++) {
                same(checks, run, "adopt", group, sheet, 3 + random.nextInt(2));
            }
        }
    }

    /** Asks new objects in the same state, as the first one has had its calls. */
    private void sameAtTheEnd(Checks checks, int run) {
        for (int sheet = 0; sheet < plain.sheets(); sheet++) {
            for (int pupil = 0; pupil < 12; pupil++) {
                for (String name : new String[] {"answer", "mark", "due", "told", "fingerprints"}) {
                    sameAgain(checks, run, name, pupil, sheet);
                }
            }
            for (int version = 0; version < 16; version++) {
                sameAgain(checks, run, "parent", sheet, version);
                sameAgain(checks, run, "points", sheet, version);
            }
            sameAgain(checks, run, "pairs", sheet);
            sameAgain(checks, run, "pairsAnew", sheet);
            sameAgain(checks, run, "versions", sheet);
        }
        for (int group = 0; group < 4; group++) {
            sameAgain(checks, run, "used", group);
            sameAgain(checks, run, "usedAnew", group);
        }
    }

    private void sameAgain(Checks checks, int run, String name, int... args) {
        if (asked == null || asked.callsLeft() == 0) {
            asked = vault.again();
        }
        same(asked, checks, run, name, args);
    }

    private boolean same(Checks checks, int run, String name, int... args) {
        return same(vault, checks, run, name, args);
    }

    private boolean same(Vault its, Checks checks, int run, String name, int... args) {
        String got = CallTable.answerOf(its, name, args);
        String due = CallTable.answerOf(plain, name, args);
        String call = "run " + run + ": " + name + Arrays.toString(args);
        checks.holds(call + " answered " + got + ", due is " + due, got.equals(due));
        return got.equals(due);
    }

    /** Mostly what is there, now and then what is at an edge or beyond it. */
    private int draw(String what) {
        boolean odd = random.nextInt(80) == 0;
        switch (what) {
            case "group": return odd ? random.nextInt(6) - 1 : random.nextInt(4);
            case "sheet": return sheet = odd ? random.nextInt(6) - 1 : random.nextInt(Math.max(1, plain.sheets()));
            case "its-sheet": return sheet;
            case "task": return odd ? random.nextInt(7) - 1 : task();
            case "number-task": return random.nextInt(4) == 0 ? random.nextInt(5) : 1;
            case "choice-task": return random.nextInt(4) == 0 ? random.nextInt(5) : 2;
            case "words-task": return random.nextInt(4) == 0 ? random.nextInt(5) : 3 * random.nextInt(2);
            case "points": return odd ? random.nextInt(13) - 1 : 1 + random.nextInt(10);
            case "number": return odd ? random.nextInt(2010) - 1005 : random.nextInt(4);
            case "slack": return odd ? random.nextInt(104) - 2 : random.nextInt(2);
            case "signs": return odd ? random.nextInt(36) - 2 : random.nextInt(32);
            case "version": return odd ? random.nextInt(18) - 1 : version();
            case "pupil": return odd ? random.nextInt(14) - 1 : random.nextInt(random.nextBoolean() ? 12 : 4);
            case "speaker": return speaker();
            case "said": return odd ? random.nextInt(2010) - 1005 : word();
            case "row": return odd ? random.nextInt() : row();
            case "print": return odd ? random.nextInt() : Rows.print(word(), word(), word());
            case "place": return odd ? random.nextInt() : random.nextInt(8) - 1;
            case "quota": return odd ? random.nextInt(1005) - 2 : random.nextInt(150);
            default: throw new IllegalArgumentException(what);
        }
    }

    /** Mostly one of the tasks of WORDS that every run begins with. */
    private int task() {
        return random.nextBoolean() ? 3 * random.nextInt(2) : random.nextInt(4);
    }

    /** Mostly a version that was not folded. */
    private int version() {
        int version = random.nextInt(16);
        for (int tries = 0; tries < 20; tries++) {
            try {
                plain.parent(sheet, version);
                return version;
            } catch (IndexOutOfBoundsException e) {
                version = random.nextInt(16);
            }
        }
        return version;
    }

    /** Mostly a pupil with an open answer, to a sheet that is remembered. */
    private int speaker() {
        int pupil = 0;
        for (int tries = 0; tries < 30; tries++) {
            pupil = random.nextInt(12);
            sheet = random.nextInt(plain.sheets());
            if (plain.answer(pupil, sheet) == SheetVault.OPEN) {
                return pupil;
            }
        }
        return pupil;
    }

    private int word() {
        return random.nextInt(words) + 1;
    }

    private int row() {
        int[] row = new int[1 + random.nextInt(6)];
        for (int place = 0; place < row.length; place++) {
            row[place] = word();
        }
        return Rows.row(row);
    }
}
