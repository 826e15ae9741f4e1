/** Promises 3 to 7 and 10 to 15: revising, adopting, and what versions have. */
public final class RevisionsTest {
    public static void main(String[] args) {
        Checks checks = new Checks();
        setNumber(checks);
        setChoice(checks);
        setWords(checks);
        drop(checks);
        adopt(checks);
        versionsBranch(checks);
        sixteenVersions(checks);
        whatIsNotThere(checks);
        sheetsAreApart(checks);
        Rows.end(checks);
    }

    private static void setNumber(Checks checks) {
        Vault x = Rows.withSheets(1);
        checks.is("setNumber", x.setNumber(1, 0, 2, 7, -1000, 0), 1);
        checks.is("head", x.head(1, 0), 1);
        checks.is("head of another class", x.head(0, 0), 0);
        checks.is("parent", x.parent(0, 1), 0);
        checks.is("kindOf", x.kindOf(0, 1, 2), SheetVault.NUMBER);
        checks.is("kindOf in the parent", x.kindOf(0, 0, 2), SheetVault.NONE);
        checks.is("points", x.points(0, 1), 7);
        checks.is("used", x.used(1), 2);
        checks.is("setNumber at the upper ends", x.setNumber(1, 0, 4, 10, 1000, 100), 2);
        checks.is("setNumber at the lower ends", x.setNumber(1, 0, 0, 1, -1000, 0), 3);
        checks.is("points of all", x.points(0, 3), 18);
        checks.is("used by three", x.used(1), 6);
        int[] groups = {-1, 4, Rows.MOST, Rows.LEAST};
        for (int group : groups) {
            checks.index(x, "setNumber class", v -> v.setNumber(group, 0, 0, 0, 0, 0));
        }
        int[] sheets = {-1, 1, 4, Rows.MOST, Rows.LEAST};
        for (int sheet : sheets) {
            checks.index(x, "setNumber sheet", v -> v.setNumber(0, sheet, 0, 0, 0, 0));
        }
        int[] tasks = {-1, 5, Rows.MOST, Rows.LEAST};
        for (int task : tasks) {
            checks.index(x, "setNumber task", v -> v.setNumber(0, 0, task, 0, 0, 0));
        }
        int[] points = {0, 11, -1, Rows.MOST, Rows.LEAST};
        for (int wrong : points) {
            checks.argument(x, "setNumber points", v -> v.setNumber(0, 0, 0, wrong, 0, 0));
        }
        int[] values = {-1001, 1001, Rows.MOST, Rows.LEAST};
        for (int wrong : values) {
            checks.argument(x, "setNumber value", v -> v.setNumber(0, 0, 0, 1, wrong, 0));
        }
        int[] slacks = {-1, 101, Rows.MOST, Rows.LEAST};
        for (int wrong : slacks) {
            checks.argument(x, "setNumber slack", v -> v.setNumber(0, 0, 0, 1, 0, wrong));
        }
        x.setQuota(0, 1);
        checks.state(x, "setNumber past the quota", v -> v.setNumber(0, 0, 0, 1, 0, 0));
        checks.argument(x, "setNumber past the quota and out of range", v -> v.setNumber(0, 0, 0, 1, 0, 101));
        x.setQuota(0, 2);
        checks.is("setNumber up to the quota", x.setNumber(0, 0, 0, 1, 0, 0), 4);
    }

    private static void setChoice(Checks checks) {
        Vault x = Rows.withSheets(1);
        checks.is("setChoice", x.setChoice(3, 0, 0, 10, 0), 1);
        checks.is("setChoice of all signs", x.setChoice(3, 0, 1, 1, 31), 2);
        checks.is("kindOf", x.kindOf(0, 2, 0), SheetVault.CHOICE);
        checks.is("points", x.points(0, 2), 11);
        checks.is("used", x.used(3), 2);
        checks.index(x, "setChoice class", v -> v.setChoice(4, 0, 0, 0, 99));
        checks.index(x, "setChoice class below", v -> v.setChoice(-1, 0, 0, 0, 99));
        checks.index(x, "setChoice sheet", v -> v.setChoice(0, 1, 0, 0, 99));
        checks.index(x, "setChoice task", v -> v.setChoice(0, 0, 5, 0, 99));
        checks.index(x, "setChoice task below", v -> v.setChoice(0, 0, -1, 0, 99));
        checks.argument(x, "setChoice points 0", v -> v.setChoice(0, 0, 0, 0, 0));
        checks.argument(x, "setChoice points 11", v -> v.setChoice(0, 0, 0, 11, 0));
        checks.argument(x, "setChoice signs 32", v -> v.setChoice(0, 0, 0, 1, 32));
        checks.argument(x, "setChoice signs -1", v -> v.setChoice(0, 0, 0, 1, -1));
        x.setQuota(0, 0);
        checks.state(x, "setChoice past the quota", v -> v.setChoice(0, 0, 0, 1, 0));
        checks.argument(x, "setChoice past the quota and out of range", v -> v.setChoice(0, 0, 0, 1, 32));
        x.setQuota(0, 1);
        checks.is("setChoice up to the quota", x.setChoice(0, 0, 0, 1, 0), 3);
    }

    private static void setWords(Checks checks) {
        Vault x = Rows.withSheets(1);
        checks.is("setWords of one", x.setWords(2, 0, 3, 9, Rows.row(31)), 1);
        checks.is("used by one word", x.used(2), 1);
        checks.is("setWords of six", x.setWords(2, 0, 3, 8, Rows.row(31, 31, 31, 31, 31, 31)), 2);
        checks.is("used by six words more", x.used(2), 7);
        checks.is("setWords of three", x.setWords(2, 0, 3, 8, Rows.row(1, 2, 1)), 3);
        checks.is("used by three words more", x.used(2), 10);
        checks.is("kindOf", x.kindOf(0, 3, 3), SheetVault.WORDS);
        checks.is("points", x.points(0, 3), 8);
        checks.index(x, "setWords class", v -> v.setWords(4, 0, 0, 0, 0));
        checks.index(x, "setWords class below", v -> v.setWords(-1, 0, 0, 0, 0));
        checks.index(x, "setWords sheet", v -> v.setWords(0, 2, 0, 0, 0));
        checks.index(x, "setWords task", v -> v.setWords(0, 0, 5, 0, 0));
        checks.index(x, "setWords task below", v -> v.setWords(0, 0, -1, 0, 0));
        checks.argument(x, "setWords points 0", v -> v.setWords(0, 0, 0, 0, 1));
        checks.argument(x, "setWords points 11", v -> v.setWords(0, 0, 0, 11, 1));
        checks.argument(x, "no words", v -> v.setWords(0, 0, 0, 1, 0));
        checks.argument(x, "a word of 0 first", v -> v.setWords(0, 0, 0, 1, Rows.row(0, 1)));
        checks.argument(x, "a word of 0 between", v -> v.setWords(0, 0, 0, 1, Rows.row(1, 0, 1)));
        checks.argument(x, "a word of 0 ahead of the sixth", v -> v.setWords(0, 0, 0, 1, Rows.row(1, 1, 1, 1, 0, 1)));
        checks.argument(x, "bit 30", v -> v.setWords(0, 0, 0, 1, 1 << 30));
        checks.argument(x, "bit 30 behind six", v -> v.setWords(0, 0, 0, 1, 1 << 30 | Rows.row(1, 1, 1, 1, 1, 1)));
        checks.argument(x, "bit 30 behind one", v -> v.setWords(0, 0, 0, 1, 1 << 30 | 1));
        checks.argument(x, "bit 31 behind six", v -> v.setWords(0, 0, 0, 1, 1 << 31 | Rows.row(1, 1, 1, 1, 1, 1)));
        checks.argument(x, "all bits", v -> v.setWords(0, 0, 0, 1, -1));
        checks.argument(x, "the least number", v -> v.setWords(0, 0, 0, 1, Rows.LEAST));
        checks.argument(x, "the most number", v -> v.setWords(0, 0, 0, 1, Rows.MOST));
        x.setQuota(0, 5);
        checks.state(x, "setWords past the quota", v -> v.setWords(0, 0, 0, 1, Rows.row(1, 1, 1, 1, 1, 1)));
        checks.argument(x, "setWords past the quota and no row", v -> v.setWords(0, 0, 0, 1, 0));
        checks.is("setWords up to the quota", x.setWords(0, 0, 0, 1, Rows.row(1, 1, 1, 1, 1)), 4);
    }

    private static void drop(Checks checks) {
        Vault x = Rows.withSheets(1);
        checks.state(x, "drop without task", v -> v.drop(0, 0, 0));
        x.setNumber(0, 0, 0, 5, 1, 1);
        checks.state(x, "drop of what another class has", v -> v.drop(1, 0, 0));
        checks.is("drop", x.drop(0, 0, 0), 2);
        checks.is("kindOf what was dropped", x.kindOf(0, 2, 0), SheetVault.NONE);
        checks.is("toldIn what was dropped", x.toldIn(0, 2, 0), 2);
        checks.is("points of what was dropped", x.points(0, 2), 0);
        checks.is("kindOf in the parent", x.kindOf(0, 1, 0), SheetVault.NUMBER);
        checks.is("used", x.used(0), 3);
        checks.state(x, "drop again", v -> v.drop(0, 0, 0));
        checks.is("set again", x.setChoice(0, 0, 0, 3, 1), 3);
        checks.is("kindOf what was set again", x.kindOf(0, 3, 0), SheetVault.CHOICE);
        checks.index(x, "drop class", v -> v.drop(4, 0, 0));
        checks.index(x, "drop class below", v -> v.drop(-1, 0, 0));
        checks.index(x, "drop sheet", v -> v.drop(0, 1, 0));
        checks.index(x, "drop task", v -> v.drop(0, 0, 5));
        checks.index(x, "drop task below", v -> v.drop(0, 0, -1));
        x.setQuota(0, 4);
        checks.state(x, "drop past the quota", v -> v.drop(0, 0, 0));
        x.setQuota(0, 5);
        checks.is("drop up to the quota", x.drop(0, 0, 0), 4);
    }

    private static void adopt(Checks checks) {
        Vault x = Rows.withSheets(2);
        x.setNumber(0, 0, 0, 5, 1, 1);
        checks.is("adopt", x.adopt(1, 0, 1), 0);
        checks.is("head", x.head(1, 0), 1);
        checks.is("adopt it again", x.adopt(1, 0, 1), 1);
        checks.is("a version of the adopted one", x.setNumber(1, 0, 1, 2, 1, 1), 2);
        checks.is("its parent", x.parent(0, 2), 1);
        checks.is("its owner uses", x.used(1), 2);
        checks.is("the first class uses", x.used(0), 2);
        checks.is("adopt back", x.adopt(1, 0, 0), 2);
        checks.is("adopt costs nothing", x.used(1), 2);
        checks.index(x, "adopt class", v -> v.adopt(4, 0, 0));
        checks.index(x, "adopt class below", v -> v.adopt(-1, 0, 0));
        checks.index(x, "adopt sheet", v -> v.adopt(0, 2, 0));
        checks.index(x, "adopt version", v -> v.adopt(0, 0, 3));
        checks.index(x, "adopt version of the other sheet", v -> v.adopt(0, 1, 1));
        checks.index(x, "adopt version -1", v -> v.adopt(0, 0, -1));
        checks.index(x, "adopt version 16", v -> v.adopt(0, 0, 16));
        x.fold(0, 2);
        checks.index(x, "adopt what was folded", v -> v.adopt(0, 0, 2));
    }

    private static void versionsBranch(Checks checks) {
        Vault x = Rows.withSheets(1);
        x.setNumber(0, 0, 0, 5, 1, 1);
        x.adopt(1, 0, 1);
        x.setChoice(0, 0, 1, 3, 1);
        x.setWords(1, 0, 0, 2, Rows.row(1, 2));
        checks.is("versions", x.versions(0), 4);
        checks.is("kind in the one branch", x.kindOf(0, 2, 0), SheetVault.NUMBER);
        checks.is("kind in the other branch", x.kindOf(0, 3, 0), SheetVault.WORDS);
        checks.is("told in the one branch", x.toldIn(0, 2, 0), 1);
        checks.is("told in the other branch", x.toldIn(0, 3, 0), 3);
        checks.is("task of the one branch alone", x.kindOf(0, 3, 1), SheetVault.NONE);
        checks.is("told nowhere", x.toldIn(0, 3, 1), SheetVault.NONE);
        checks.is("points in the one branch", x.points(0, 2), 8);
        checks.is("points in the other branch", x.points(0, 3), 2);
        checks.is("points in the parent", x.points(0, 1), 5);
    }

    private static void sixteenVersions(Checks checks) {
        Vault x = Rows.withSheets(2);
        for (int version = 1; version < 16; version++) {
            checks.is("a version", x.setChoice(version % 4, 0, version % 5, 1, 0), version);
        }
        checks.is("versions", x.versions(0), 16);
        checks.state(x, "the 17th version", v -> v.setNumber(0, 0, 0, 1, 1, 1));
        checks.state(x, "the 17th version", v -> v.setChoice(0, 0, 0, 1, 1));
        checks.state(x, "the 17th version", v -> v.setWords(0, 0, 0, 1, 1));
        checks.state(x, "the 17th version", v -> v.drop(0, 0, 4));
        checks.argument(x, "the 17th version, out of range", v -> v.setNumber(0, 0, 0, 1, 1, 101));
        checks.index(x, "version 16", v -> v.kindOf(0, 16, 0));
        x.fold(0, 4);
        checks.is("versions after folding", x.versions(0), 15);
        checks.state(x, "those that were folded count", v -> v.setChoice(0, 0, 0, 1, 1));
        checks.is("the other sheet", x.setChoice(0, 1, 0, 1, 1), 1);
    }

    private static void whatIsNotThere(Checks checks) {
        Vault x = Rows.withSheets(1);
        x.setNumber(0, 0, 0, 5, 1, 1);
        x.adopt(0, 0, 0);
        x.fold(0, 1);
        checks.is("versions after folding", x.versions(0), 1);
        int[] versions = {-1, 1, 2, 16, Rows.MOST, Rows.LEAST};
        for (int version : versions) {
            checks.index(x, "parent", v -> v.parent(0, version));
            checks.index(x, "kindOf", v -> v.kindOf(0, version, 0));
            checks.index(x, "toldIn", v -> v.toldIn(0, version, 0));
            checks.index(x, "points", v -> v.points(0, version));
        }
        int[] sheets = {-1, 1, 4, Rows.MOST, Rows.LEAST};
        for (int sheet : sheets) {
            checks.index(x, "versions", v -> v.versions(sheet));
            checks.index(x, "head", v -> v.head(0, sheet));
            checks.index(x, "parent", v -> v.parent(sheet, 0));
            checks.index(x, "kindOf", v -> v.kindOf(sheet, 0, 0));
            checks.index(x, "toldIn", v -> v.toldIn(sheet, 0, 0));
            checks.index(x, "points", v -> v.points(sheet, 0));
        }
        int[] tasks = {-1, 5, Rows.MOST, Rows.LEAST};
        for (int task : tasks) {
            checks.index(x, "kindOf", v -> v.kindOf(0, 0, task));
            checks.index(x, "toldIn", v -> v.toldIn(0, 0, task));
        }
        checks.index(x, "head", v -> v.head(-1, 0));
        checks.index(x, "head", v -> v.head(4, 0));
        checks.is("the number of what was folded is not used again", x.setNumber(0, 0, 0, 5, 1, 1), 2);
    }

    private static void sheetsAreApart(Checks checks) {
        Vault x = Rows.withSheets(2);
        x.setNumber(0, 0, 0, 5, 1, 1);
        checks.is("versions of the other sheet", x.versions(1), 1);
        checks.is("head in the other sheet", x.head(0, 1), 0);
        checks.is("first version of the other sheet", x.setNumber(0, 1, 0, 5, 1, 1), 1);
        checks.is("both sheets count for the class", x.used(0), 4);
    }
}
