import java.util.function.Supplier;

/**
 * "If several exceptions of a throws clause apply, the one that is listed first is thrown. A call that throws an
 * exception changes nothing": two arguments out of range, and an argument out of range where the state refuses the
 * call.
 */
public final class FirstTest {
    public static void main(String[] args) {
        Checks checks = new Checks();
        for (CallTable.Row row : CallTable.rows()) {
            twoOutOfRange(checks, row);
        }
        revisions(checks);
        drops(checks);
        folds(checks);
        mends(checks);
        opens(checks);
        says(checks);
        handsAndCloses(checks);
        Rows.end(checks);
    }

    private static void twoOutOfRange(Checks checks, CallTable.Row row) {
        Vault x = row.made();
        for (int first = 0; first < row.arguments.size(); first++) {
            for (int second = first + 1; second < row.arguments.size(); second++) {
                CallTable.Argument one = row.arguments.get(first);
                CallTable.Argument two = row.arguments.get(second);
                if (one.thrown == null || two.thrown == null) {
                    continue;
                }
                boolean bounds = one.thrown == IndexOutOfBoundsException.class || two.thrown == one.thrown;
                Class<?> due = bounds ? one.thrown : two.thrown;
                both(checks, x, row, due, first, one.least - 1, second, two.least - 1);
                both(checks, x, row, due, first, one.most + 1, second, two.most + 1);
            }
        }
    }

    private static void both(Checks checks, Vault x, CallTable.Row row, Class<?> due, int first, int value, int second,
            int other) {
        CallTable.Argument one = row.arguments.get(first);
        CallTable.Argument two = row.arguments.get(second);
        boolean outside = (value < one.least || value > one.most) && (other < two.least || other > two.most);
        if (outside) {
            int[] values = row.with(first, value);
            values[second] = other;
            checks.fails(x, row.told(values), due, v -> CallTable.make(v, row.method, values));
        }
    }

    /** The state refuses the call, and each argument that is out of range is told ahead of that. */
    private static void refused(Checks checks, String method, Supplier<Vault> state, int... values) {
        CallTable.Row row = rowOf(method, values.length);
        Vault x = state.get();
        checks.state(x, row.told(values), v -> CallTable.make(v, method, values));
        for (int place = 0; place < values.length; place++) {
            CallTable.Argument argument = row.arguments.get(place);
            if (argument.thrown == null) {
                continue;
            }
            for (int value : argument.outside()) {
                int[] wrong = values.clone();
                wrong[place] = value;
                checks.fails(x, row.told(wrong), argument.thrown, v -> CallTable.make(v, method, wrong));
            }
        }
    }

    private static CallTable.Row rowOf(String method, int arguments) {
        for (CallTable.Row row : CallTable.rows()) {
            if (row.method.equals(method) && row.arguments.size() == arguments) {
                return row;
            }
        }
        throw new AssertionError("no such call: " + method);
    }

    private static Vault full() {
        Vault x = Rows.withSheets(4);
        for (int version = 1; version < 16; version++) {
            x.setChoice(version % 4, 0, 0, 1, 1);
        }
        return x;
    }

    private static Vault atQuota() {
        Vault x = Rows.withSheets(4);
        for (int group = 0; group < 4; group++) {
            x.setChoice(group, 0, 0, 1, 1);
            x.setQuota(group, 1);
        }
        return x;
    }

    private static void revisions(Checks checks) {
        refused(checks, "setNumber", FirstTest::full, 0, 0, 0, 1, 1, 1);
        refused(checks, "setNumber", FirstTest::atQuota, 0, 0, 0, 1, 1, 1);
        refused(checks, "setChoice", FirstTest::full, 3, 0, 4, 10, 31);
        refused(checks, "setChoice", FirstTest::atQuota, 3, 0, 4, 10, 31);
        refused(checks, "setWords", FirstTest::full, 1, 0, 4, 10, 1);
        refused(checks, "setWords", FirstTest::atQuota, 1, 0, 4, 10, 1);
    }

    private static void drops(Checks checks) {
        refused(checks, "drop", FirstTest::full, 0, 0, 0);
        refused(checks, "drop", FirstTest::full, 0, 0, 1);
        refused(checks, "drop", FirstTest::atQuota, 0, 0, 0);
        refused(checks, "drop", FirstTest::atQuota, 0, 0, 1);
        refused(checks, "drop", () -> Rows.withSheets(4), 0, 0, 0);
    }

    private static void folds(Checks checks) {
        Vault x = CallTable.stateOf("numbers");
        checks.state(x, "fold of a head", v -> v.fold(0, 5));
        checks.index(x, "fold of a head in no sheet", v -> v.fold(4, 5));
        checks.index(x, "fold of a head in no sheet", v -> v.fold(-1, 5));
        checks.index(x, "fold of no version", v -> v.fold(0, 6));
        checks.index(x, "fold of the version 0 in no sheet", v -> v.fold(4, 0));
    }

    private static void mends(Checks checks) {
        refused(checks, "mendNumber", () -> CallTable.stateOf("choices"), 0, 5, 0, 1, 1);
        refused(checks, "mendNumber", () -> CallTable.stateOf("words"), 0, 5, 0, 1, 1);
        refused(checks, "mendNumber", () -> CallTable.stateOf("numbers"), 0, 0, 0, 1, 1);
        refused(checks, "mendChoice", () -> CallTable.stateOf("numbers"), 0, 5, 0, 1);
        refused(checks, "mendChoice", () -> CallTable.stateOf("words"), 0, 5, 0, 1);
        refused(checks, "mendChoice", () -> CallTable.stateOf("choices"), 0, 0, 0, 1);
        refused(checks, "mendWords", () -> CallTable.stateOf("numbers"), 0, 5, 0, 1);
        refused(checks, "mendWords", () -> CallTable.stateOf("choices"), 0, 5, 0, 1);
        refused(checks, "mendWords", () -> CallTable.stateOf("words"), 0, 0, 0, 1);
        refused(checks, "mendWords", FirstTest::wordsAtQuota, 0, 5, 0, Rows.row(1, 2));
        Vault x = wordsAtQuota();
        checks.index(x, "mend past the quota of no version", v -> v.mendWords(0, 6, 0, Rows.row(1, 2)));
        checks.index(x, "mend past the quota of no version", v -> v.mendWords(0, -1, 0, Rows.row(1, 2)));
        checks.argument(x, "mend of another kind to no row", v -> v.mendWords(0, 0, 0, 0));
    }

    private static Vault wordsAtQuota() {
        Vault x = CallTable.stateOf("words");
        x.setQuota(0, x.used(0));
        return x;
    }

    private static void opens(Checks checks) {
        refused(checks, "open", () -> CallTable.stateOf("opened-numbers"), 0, 0);
        refused(checks, "open", FirstTest::closed, 11, 3);
    }

    private static Vault closed() {
        Vault x = CallTable.stateOf("opened-numbers");
        for (int sheet = 0; sheet < 4; sheet++) {
            for (int group = 0; group < 4; group++) {
                x.close(group, sheet);
            }
        }
        return x;
    }

    /** Out of range is told ahead of the state where there is an open answer whose version has the task, else not. */
    private static void says(Checks checks) {
        String[] states = {"opened-numbers", "opened-choices", "opened-words"};
        int[] below = {-1001, -1, 0};
        int[] above = {1001, 5, 32};
        for (int kind = 0; kind < states.length; kind++) {
            int[] wrong = {below[kind], above[kind], Rows.MOST, Rows.LEAST};
            Vault full = CallTable.stateOf(states[kind]);
            full.setQuota(0, full.used(0));
            Vault handed = CallTable.stateOf(states[kind]);
            handed.hand(0, 0);
            Vault shut = CallTable.stateOf(states[kind]);
            shut.close(0, 0);
            Vault unopened = CallTable.stateOf(states[kind].substring(7));
            checks.state(full, "say past the quota", v -> v.say(0, 0, 0, 2));
            for (int said : wrong) {
                checks.argument(full, "say " + said + " past the quota", v -> v.say(0, 0, 0, said));
                checks.state(handed, "say " + said + " when handed in", v -> v.say(0, 0, 0, said));
                checks.state(shut, "say " + said + " when closed", v -> v.say(0, 0, 0, said));
                checks.state(unopened, "say " + said + " without answer", v -> v.say(0, 0, 0, said));
                checks.index(unopened, "say " + said + " for no task", v -> v.say(0, 0, 5, said));
                checks.index(handed, "say " + said + " of no pupil", v -> v.say(12, 0, 0, said));
                checks.index(shut, "say " + said + " for no sheet", v -> v.say(0, 4, 0, said));
            }
        }
        wordsAreFull(checks);
        noSuchTask(checks);
    }

    private static void wordsAreFull(Checks checks) {
        Vault x = CallTable.stateOf("opened-words");
        for (int word = 0; word < 12; word++) {
            x.say(0, 0, 0, 31);
        }
        checks.state(x, "the 13th word", v -> v.say(0, 0, 0, 31));
        int[] wrong = {0, 32, -1, Rows.MOST, Rows.LEAST};
        for (int said : wrong) {
            checks.argument(x, "the 13th word " + said, v -> v.say(0, 0, 0, said));
        }
        int[] tasks = {-1, 5};
        for (int task : tasks) {
            checks.index(x, "the 13th word for no task", v -> v.say(0, 0, task, 31));
        }
    }

    private static void noSuchTask(Checks checks) {
        Vault x = Rows.withSheets(1);
        x.setNumber(0, 0, 0, 1, 1, 1);
        x.drop(0, 0, 0);
        x.open(0, 0);
        int[] all = {0, 1, 5, 32, 1001, -1001, Rows.MOST, Rows.LEAST};
        for (int said : all) {
            checks.state(x, "say " + said + " for what was dropped", v -> v.say(0, 0, 0, said));
            checks.state(x, "say " + said + " for what was never set", v -> v.say(0, 0, 4, said));
            checks.index(x, "say " + said + " for no task", v -> v.say(0, 0, -1, said));
        }
    }

    private static void handsAndCloses(Checks checks) {
        refused(checks, "hand", () -> CallTable.stateOf("numbers"), 11, 3);
        refused(checks, "hand", FirstTest::closed, 0, 0);
        refused(checks, "close", FirstTest::closed, 3, 3);
    }
}
