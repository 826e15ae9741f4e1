import java.util.List;

/**
 * Every argument of every call (promises 2 to 36): the two ends of its range are taken, and what lies outside, one
 * below and one above first, is refused with the exception of the document and changes nothing.
 */
public final class EndsTest {
    public static void main(String[] args) {
        Checks checks = new Checks();
        for (CallTable.Row row : CallTable.rows()) {
            ends(checks, row);
            outside(checks, row);
        }
        setWordsRows(checks);
        mendVersions(checks);
        foldVersions(checks);
        sixteenVersions(checks);
        foldedVersions(checks);
        fewerSheets(checks);
        places(checks);
        Rows.end(checks);
    }

    private static void ends(Checks checks, CallTable.Row row) {
        for (int place = 0; place < row.arguments.size(); place++) {
            CallTable.Argument argument = row.arguments.get(place);
            if (argument.thrown == null) {
                continue;
            }
            int[] ends = {argument.taken, argument.least, argument.most};
            for (int end : ends) {
                int[] values = row.with(place, end);
                int answer = CallTable.make(row.made(), row.method, values);
                if (!row.due.equals("?")) {
                    checks.is(row.told(values), answer, Integer.parseInt(row.due));
                }
            }
        }
    }

    private static void outside(Checks checks, CallTable.Row row) {
        Vault x = row.made();
        for (int place = 0; place < row.arguments.size(); place++) {
            CallTable.Argument argument = row.arguments.get(place);
            if (argument.thrown == null) {
                continue;
            }
            for (int value : argument.outside()) {
                int[] values = row.with(place, value);
                checks.fails(x, row.told(values), argument.thrown, v -> CallTable.make(v, row.method, values));
            }
        }
    }

    /** "5 bits for each, the first one in the lowest; 1 to 6 words, and behind the last one no bits". */
    private static void setWordsRows(Checks checks) {
        int[] rows = {
            Rows.row(1), Rows.row(31), Rows.row(1, 1), Rows.row(31, 31, 31, 31, 31), Rows.row(1, 1, 1, 1, 1, 1),
            Rows.row(31, 31, 31, 31, 31, 31), Rows.row(16, 16, 16, 16, 16, 16), Rows.row(1, 31, 1, 31, 1, 31),
        };
        int[] words = {1, 1, 2, 5, 6, 6, 6, 6};
        for (int place = 0; place < rows.length; place++) {
            Vault x = CallTable.stateOf("words");
            checks.is("setWords", x.setWords(3, 0, 0, 1, rows[place]), 6);
            checks.is("words of the row", x.used(3), words[place]);
            checks.is("mendWords", x.mendWords(1, 5, 0, rows[place]), 0);
            checks.is("words of the mended row", x.used(0), 20 + words[place] - 1);
        }
        Vault x = CallTable.stateOf("words");
        int[] wrong = {
            0, Rows.row(0, 1), Rows.row(0, 0, 0, 0, 0, 1), Rows.row(0, 1, 1, 1, 1, 1), Rows.row(1, 0, 1),
            Rows.row(1, 0, 0, 0, 0, 31), Rows.row(1, 2, 0, 3), Rows.row(1, 2, 3, 0, 4), Rows.row(1, 2, 3, 4, 0, 5),
            Rows.row(1, 2, 3, 0, 0, 4), 1 << 30, 1 << 31, 3 << 30, 1 << 30 | 1, 1 << 31 | 1, 1 << 30 | (1 << 30) - 1,
            1 << 31 | (1 << 30) - 1, 1 << 30 | Rows.row(1, 2, 3, 4, 5), -1, Integer.MAX_VALUE, Integer.MIN_VALUE,
        };
        for (int row : wrong) {
            checks.argument(x, "setWords of " + row, v -> v.setWords(3, 0, 0, 1, row));
            checks.argument(x, "mendWords to " + row, v -> v.mendWords(1, 5, 0, row));
        }
    }

    /** The version of a mend: -1, 0 (which never has a task), the first and the last one, and one above. */
    private static void mendVersions(Checks checks) {
        String[] kinds = {"numbers", "choices", "words"};
        String[] methods = {"mendNumber", "mendChoice", "mendWords"};
        for (int kind = 0; kind < kinds.length; kind++) {
            String method = methods[kind];
            int[] rest = kind == 0 ? new int[] {0, 1, 1} : new int[] {0, 1};
            Vault x = CallTable.stateOf(kinds[kind]);
            int[] none = {-1, 6, 15, 16, Rows.MOST, Rows.LEAST};
            for (int version : none) {
                checks.index(x, method + " of " + version, v -> CallTable.make(v, method, with(0, version, rest)));
            }
            checks.state(x, method + " of the version 0", v -> CallTable.make(v, method, with(0, 0, rest)));
            checks.is(method + " of the first", CallTable.make(x, method, with(3, 1, rest)), 0);
            checks.is(method + " of the last", CallTable.make(x, method, with(3, 5, rest)), 0);
        }
    }

    private static int[] with(int sheet, int version, int[] rest) {
        int[] values = new int[rest.length + 2];
        values[0] = sheet;
        values[1] = version;
        System.arraycopy(rest, 0, values, 2, rest.length);
        return values;
    }

    /** The version of a fold: -1, 0 (which cannot be folded), the first and the last one, and one above. */
    private static void foldVersions(Checks checks) {
        Vault x = CallTable.stateOf("adopted");
        int[] none = {-1, 6, 15, 16, Rows.MOST, Rows.LEAST};
        for (int version : none) {
            checks.index(x, "fold of " + version, v -> v.fold(3, version));
        }
        checks.state(x, "fold of the version 0", v -> v.fold(3, 0));
        checks.is("fold of the first", x.fold(3, 1), 0);
        checks.is("fold of the last", x.fold(3, 5), 2);
    }

    /** With all 16 versions the number 15 is the last one. */
    private static void sixteenVersions(Checks checks) {
        Vault x = Rows.withSheets(1);
        for (int version = 1; version < 16; version++) {
            x.setNumber(version % 4, 0, 0, 1, 1, 1);
        }
        checks.is("parent of 15", x.parent(0, 15), 11);
        checks.is("kindOf in 15", x.kindOf(0, 15, 0), SheetVault.NUMBER);
        checks.is("toldIn of 15", x.toldIn(0, 15, 0), 15);
        checks.is("points of 15", x.points(0, 15), 1);
        checks.is("mend of 15", x.mendNumber(0, 15, 0, 2, 2), 0);
        checks.is("adopt of 15", x.adopt(0, 0, 15), 12);
        noVersion(checks, x, 16);
        x.adopt(0, 0, 0);
        x.adopt(3, 0, 0);
        checks.is("fold of 15", x.fold(0, 15), 2);
        noVersion(checks, x, 15);
    }

    /** "no such version (or it was folded)". */
    private static void foldedVersions(Checks checks) {
        Vault x = Rows.withSheets(1);
        x.setNumber(0, 0, 0, 1, 1, 1);
        x.setNumber(0, 0, 1, 1, 1, 1);
        x.fold(0, 1);
        noVersion(checks, x, 1);
        noVersion(checks, x, 3);
        checks.is("the one above stays", x.points(0, 2), 2);
        checks.is("the one below stays", x.points(0, 0), 0);
    }

    private static void noVersion(Checks checks, Vault x, int version) {
        checks.index(x, "adopt", v -> v.adopt(0, 0, version));
        checks.index(x, "fold", v -> v.fold(0, version));
        checks.index(x, "parent", v -> v.parent(0, version));
        checks.index(x, "kindOf", v -> v.kindOf(0, version, 0));
        checks.index(x, "toldIn", v -> v.toldIn(0, version, 0));
        checks.index(x, "points", v -> v.points(0, version));
        checks.index(x, "mendNumber", v -> v.mendNumber(0, version, 0, 1, 1));
        checks.index(x, "mendChoice", v -> v.mendChoice(0, version, 0, 1));
        checks.index(x, "mendWords", v -> v.mendWords(0, version, 0, 1));
    }

    /** With 0 to 3 sheets: the number of sheets is no sheet, for every call that takes one. */
    private static void fewerSheets(Checks checks) {
        for (int sheets = 0; sheets < 4; sheets++) {
            Vault x = Rows.withSheets(sheets);
            int next = sheets;
            for (CallTable.Row row : CallTable.rows()) {
                int place = sheetPlace(row.method);
                if (place >= 0) {
                    int[] values = row.with(place, next);
                    checks.index(x, row.told(values), v -> CallTable.make(v, row.method, values));
                }
            }
        }
    }

    private static int sheetPlace(String method) {
        if (List.of("setQuota", "used", "usedAnew").contains(method)) {
            return -1;
        }
        List<String> first = List.of("fold", "versions", "parent", "kindOf", "toldIn", "points", "mendNumber",
                "mendChoice", "mendWords", "withPrint", "likeness", "pairs", "pairAt", "pairsAnew");
        return first.contains(method) ? 0 : 1;
    }

    /** The place of a pair: -1, 0, the last one, and one above; with no pair, with one, and with all 66. */
    private static void places(Checks checks) {
        int[] pupils = {0, 1, 2, 12};
        int[] due = {0, 0, 1, 66};
        for (int row = 0; row < pupils.length; row++) {
            Vault x = CallTable.stateOf("words");
            for (int pupil = 0; pupil < pupils[row]; pupil++) {
                Rows.handWords(x, pupil, 2, 0, 1, 2, 3, 4);
            }
            int pairs = due[row];
            checks.is("pairs", x.pairs(2), pairs);
            checks.is("pairsAnew", x.pairsAnew(2), pairs);
            int[] none = {-1, pairs, pairs + 1, -pairs - 1, Rows.MOST, Rows.LEAST};
            for (int place : none) {
                checks.index(x, "pairAt " + place, v -> v.pairAt(2, place));
            }
            if (pairs > 0) {
                int last = pupils[row] - 1;
                checks.is("the first pair", x.pairAt(2, 0), 1);
                checks.is("the last pair", x.pairAt(2, pairs - 1), 100 * (last - 1) + last);
            }
        }
    }
}
