import java.util.ArrayList;
import java.util.Arrays;
import java.util.List;

/**
 * Every call (promises 2 to 36) with every combination of arguments at the edges of their ranges and beyond, in some
 * states: empty, full, and with a bit of all. The answer is that of PlainVault; and what throws changes nothing.
 */
public final class GridTest {
    private static final int BATCH = 60;

    /** The calls, with the names of their arguments. */
    private static final String[] CALLS = {
        "addSheet", "setNumber group sheet task points value slack", "setChoice group sheet task points signs",
        "setWords group sheet task points words", "drop group sheet task", "adopt group sheet version",
        "fold sheet version", "sheets", "versions sheet", "head group sheet", "parent sheet version",
        "kindOf sheet version task", "toldIn sheet version task", "points sheet version",
        "mendNumber sheet version task value slack", "mendChoice sheet version task signs",
        "mendWords sheet version task words", "open pupil sheet", "say pupil sheet task said", "hand pupil sheet",
        "close group sheet", "answer pupil sheet", "mark pupil sheet", "due pupil sheet", "told pupil sheet",
        "average group sheet", "fingerprints pupil sheet", "withPrint sheet print", "likeness sheet pupil pupil",
        "pairs sheet", "pairAt sheet place", "pairsAnew sheet", "setQuota group quota", "used group", "usedAnew group",
    };

    /** Four sheets, one of them with all versions, two folded, and with answers; the class 1 is at its quota. */
    private static final String[] FULL = {
        "addSheet", "addSheet", "addSheet", "addSheet", "setNumber 0 0 0 5 1 0", "setChoice 0 0 1 4 3",
        "setWords 0 0 2 6 1", "setWords 0 0 3 10 34881", "adopt 1 0 4", "adopt 2 0 4", "adopt 3 0 4", "fold 0 2",
        "setChoice 1 0 4 1 0", "setChoice 1 0 4 1 0", "drop 1 0 0", "fold 0 5", "setWords 2 0 2 3 2",
        "setNumber 2 0 4 2 9 9", "drop 2 0 3", "setChoice 3 0 0 1 1", "setChoice 3 0 0 1 1", "setChoice 3 0 0 1 1",
        "setChoice 0 0 0 1 1", "setChoice 0 0 0 1 1", "adopt 0 0 4", "open 0 0", "open 3 0", "open 4 0", "open 11 0",
        "say 0 0 2 1", "say 3 0 2 1", "hand 0 0", "setQuota 1 3",
    };

    /** Two sheets, marks, pairs, a class that is closed, mends told to it, and quotas below what classes use. */
    private static final String[] DAY = {
        "addSheet", "addSheet", "setWords 0 0 0 10 1", "setNumber 0 0 1 5 2 1", "setChoice 0 0 2 3 1", "adopt 1 0 3",
        "adopt 2 0 3", "adopt 3 0 2", "setChoice 1 0 3 4 0", "drop 2 0 0", "adopt 2 0 3", "open 0 0", "open 1 0",
        "open 3 0", "open 4 0", "open 6 0", "open 7 0", "open 11 0", "say 0 0 0 1", "say 0 0 0 2", "say 0 0 0 3",
        "say 0 0 0 1", "say 3 0 0 1", "say 3 0 0 2", "say 3 0 0 3", "say 3 0 0 1", "say 3 0 1 2", "say 4 0 0 31",
        "say 4 0 0 31", "say 4 0 0 31", "say 4 0 0 31", "say 4 0 0 31", "say 4 0 0 31", "say 4 0 0 31", "say 4 0 0 31",
        "say 4 0 0 31", "say 4 0 0 31", "say 4 0 0 31", "say 4 0 0 31", "say 6 0 0 1", "say 6 0 0 2", "say 6 0 0 3",
        "say 6 0 0 1", "say 11 0 1 1", "hand 0 0", "hand 3 0", "hand 6 0", "hand 11 0", "close 2 0",
        "mendWords 0 1 0 9", "mendWords 0 3 0 97", "mendNumber 0 2 1 1 0", "setQuota 1 10", "setQuota 3 1", "open 11 1",
    };

    private final Checks checks;
    private final String[] script;
    private final Vault vault = new Vault();
    private Vault asked;
    private PlainVault plain;
    private final List<Vault.Call> refused = new ArrayList<>();

    private GridTest(Checks checks, String[] script) {
        this.checks = checks;
        this.script = script;
        for (String step : script) {
            checks.holds("a step was refused: " + step, step(vault, step));
        }
        asked = vault.again();
        plain = plainAgain();
    }

    public static void main(String[] args) {
        Checks checks = new Checks();
        String[][] scripts = {{}, {"addSheet"}, FULL, DAY};
        for (String[] script : scripts) {
            for (String call : CALLS) {
                new GridTest(checks, script).callOf(call.split(" "));
            }
        }
        Rows.end(checks);
    }

    /** Makes a call that is written out, and tells whether it was taken. */
    private static boolean step(Object vault, String step) {
        String[] parts = step.split(" ");
        int[] values = new int[parts.length - 1];
        for (int place = 0; place < values.length; place++) {
            values[place] = Integer.parseInt(parts[place + 1]);
        }
        return !CallTable.answerOf(vault, parts[0], values).startsWith("java");
    }

    private PlainVault plainAgain() {
        PlainVault again = new PlainVault();
        for (String step : script) {
            step(again, step);
        }
        return again;
    }

    private void callOf(String[] parts) {
        int[][] edges = new int[parts.length - 1][];
        for (int place = 0; place < edges.length; place++) {
            edges[place] = edgesOf(parts[place + 1]);
        }
        combine(parts[0], edges, new int[edges.length], 0);
        lookAtRefused(parts[0]);
    }

    private static int[] edgesOf(String argument) {
        switch (argument) {
            case "group": return new int[] {-1, 0, 1, 2, 3, 4};
            case "sheet": return new int[] {-1, 0, 1, 4};
            case "task": return new int[] {-1, 0, 1, 4, 5};
            case "points": return new int[] {0, 1, 10, 11};
            case "value": return new int[] {-1001, -1000, 1000, 1001};
            case "slack": return new int[] {-1, 0, 100, 101};
            case "signs": return new int[] {-1, 0, 31, 32};
            case "words": return new int[] {0, 1, 32, (1 << 30) - 1, 1 << 30};
            case "version": return new int[] {-1, 0, 1, 2, 3, 4, 5, 15, 16};
            case "pupil": return new int[] {-1, 0, 1, 3, 4, 6, 7, 11, 12};
            case "said": return new int[] {-1001, -1000, -1, 0, 1, 4, 5, 31, 32, 1000, 1001};
            case "print": return new int[] {Rows.LEAST, -1, 0, 1057, 1091, 2145, 32767, 32768, Rows.MOST};
            case "place": return new int[] {Rows.LEAST, -1, 0, 1, 2, 66, Rows.MOST};
            case "quota": return new int[] {Rows.LEAST, -1, 0, 1000, 1001, Rows.MOST};
            default: throw new IllegalArgumentException(argument);
        }
    }

    private void combine(String method, int[][] edges, int[] values, int place) {
        if (place == edges.length) {
            compare(method, values.clone());
            return;
        }
        for (int edge : edges[place]) {
            values[place] = edge;
            combine(method, edges, values, place + 1);
        }
    }

    private void compare(String method, int[] values) {
        if (asked.callsLeft() == 0) {
            asked = vault.again();
        }
        int changes = asked.changeCount();
        String due = CallTable.answerOf(plain, method, values);
        String got = CallTable.answerOf(asked, method, values);
        checks.holds(method + Arrays.toString(values) + " answered " + got + ", due is " + due, got.equals(due));
        if (due.startsWith("java")) {
            refused.add(v -> CallTable.make(v, method, values));
            if (refused.size() == BATCH) {
                lookAtRefused(method);
            }
        } else if (asked.changeCount() != changes) {
            asked = vault.again();
            plain = plainAgain();
        }
    }

    private void lookAtRefused(String method) {
        boolean same = Picture.of(vault, refused.size()).equals(Picture.after(vault, refused));
        checks.holds("calls of " + method + " threw, but changed something", same);
        refused.clear();
    }
}
