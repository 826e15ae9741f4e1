/** The terms: versions. */
public final class TermsVersionsTest {
    public static void main(String[] args) {
        Checks checks = new Checks();
        numberedInOrder(checks);
        atMostSixteen(checks);
        foldedOnesAreCounted(checks);
        theVersionZero(checks);
        parents(checks);
        owners(checks);
        headsAtFirst(checks);
        entriesForEachTask(checks);
        theNearestEntry(checks);
        theFarthestEntry(checks);
        noneOrDropped(checks);
        entriesOfOthers(checks);
        revising(checks);
        adopting(checks);
        Rows.end(checks);
    }

    /** "The versions of a sheet are numbered from 0 in the order in which they are made". */
    private static void numberedInOrder(Checks checks) {
        Vault x = Rows.withSheets(2);
        checks.is("the version 0", x.parent(0, 0), SheetVault.NONE);
        checks.is("the first one", x.setNumber(3, 0, 4, 1, 0, 0), 1);
        checks.is("the second one", x.setChoice(0, 0, 4, 1, 0), 2);
        checks.is("the first one of the other sheet", x.setWords(0, 1, 4, 1, 1), 1);
        checks.is("the third one", x.setWords(3, 0, 0, 1, 1), 3);
        checks.is("the fourth one", x.drop(3, 0, 4), 4);
        checks.is("the second one of the other sheet", x.drop(0, 1, 4), 2);
        checks.is("versions", x.versions(0), 5);
        checks.is("versions of the other sheet", x.versions(1), 3);
        checks.index(x, "the next one", v -> v.parent(0, 5));
        checks.index(x, "the next one of the other sheet", v -> v.parent(1, 3));
    }

    /** "at most 16 of a sheet". */
    private static void atMostSixteen(Checks checks) {
        Vault x = Rows.withSheets(2);
        checks.is("versions of one", x.versions(0), 1);
        for (int version = 1; version < 16; version++) {
            checks.is("setNumber", x.setNumber(version % 4, 0, version % 5, 1, 1, 1), version);
            checks.is("versions", x.versions(0), version + 1);
        }
        for (int each = 0; each < 4; each++) {
            int group = each;
            checks.state(x, "a 17th version of NUMBER", v -> v.setNumber(group, 0, 0, 1, 1, 1));
            checks.state(x, "a 17th version of CHOICE", v -> v.setChoice(group, 0, 0, 1, 1));
            checks.state(x, "a 17th version of WORDS", v -> v.setWords(group, 0, 0, 1, 1));
        }
        checks.is("the head of the class 3", x.kindOf(0, 15, 0), SheetVault.NUMBER);
        checks.state(x, "a 17th version that drops", v -> v.drop(3, 0, 0));
        checks.is("versions", x.versions(0), 16);
        checks.is("the other sheet is not full", x.setNumber(0, 1, 0, 1, 1, 1), 1);

        Vault y = Rows.withSheets(1);
        for (int version = 1; version < 15; version++) {
            y.setChoice(0, 0, 0, 1, 1);
        }
        checks.is("the 16th version drops", y.drop(0, 0, 0), 15);
        checks.state(y, "a 17th version", v -> v.setChoice(0, 0, 0, 1, 1));
    }

    /** "those that were folded counted". */
    private static void foldedOnesAreCounted(Checks checks) {
        Vault x = Rows.withSheets(1);
        x.setChoice(0, 0, 0, 1, 1);
        x.setChoice(0, 0, 0, 1, 1);
        x.fold(0, 1);
        checks.is("versions", x.versions(0), 2);
        for (int version = 3; version < 16; version++) {
            checks.is("the number goes on", x.setChoice(0, 0, 0, 1, 1), version);
        }
        checks.is("versions", x.versions(0), 15);
        checks.state(x, "a 17th version with one folded", v -> v.setChoice(0, 0, 0, 1, 1));
        for (int version = 2; version < 15; version++) {
            checks.is("fold", x.fold(0, version), 1);
        }
        checks.is("versions", x.versions(0), 2);
        checks.state(x, "a 17th version with 14 folded", v -> v.setNumber(1, 0, 0, 1, 1, 1));
        x.adopt(0, 0, 0);
        x.fold(0, 15);
        checks.is("versions", x.versions(0), 1);
        checks.state(x, "a 17th version with all folded", v -> v.setWords(1, 0, 0, 1, 1));
        checks.index(x, "the last one is folded", v -> v.points(0, 15));

        Vault y = Rows.withSheets(1);
        y.setChoice(0, 0, 0, 1, 1);
        y.adopt(0, 0, 0);
        y.fold(0, 1);
        checks.is("the number of what was folded last is not given again", y.setChoice(0, 0, 0, 1, 1), 2);
        checks.is("versions", y.versions(0), 2);
    }

    /** "The version 0 is there at first, without tasks, and is owned by no class." */
    private static void theVersionZero(Checks checks) {
        Vault x = Rows.withSheets(4);
        for (int sheet = 0; sheet < 4; sheet++) {
            checks.is("versions", x.versions(sheet), 1);
            checks.is("points", x.points(sheet, 0), 0);
            for (int task = 0; task < 5; task++) {
                checks.is("kindOf", x.kindOf(sheet, 0, task), SheetVault.NONE);
                checks.is("toldIn", x.toldIn(sheet, 0, task), SheetVault.NONE);
            }
        }
        for (int group = 0; group < 4; group++) {
            checks.is("used", x.used(group), 0);
            checks.is("usedAnew", x.usedAnew(group), 0);
        }
        x.open(5, 3);
        checks.is("due without tasks", x.due(5, 3), 0);
        checks.state(x, "say without tasks", v -> v.say(5, 3, 0, 1));
        checks.is("hand without tasks", x.hand(5, 3), 0);
        checks.is("fingerprints without tasks", x.fingerprints(5, 3), 0);
        x.setNumber(1, 3, 0, 1, 1, 1);
        checks.is("still without tasks when others are made", x.points(3, 0), 0);
        checks.is("still without entries", x.toldIn(3, 0, 0), SheetVault.NONE);
    }

    /** "Any other version has a parent, a version of the same sheet". */
    private static void parents(Checks checks) {
        Vault x = Rows.withSheets(2);
        x.setChoice(0, 1, 0, 1, 1);
        x.setChoice(0, 0, 0, 1, 1);
        x.setChoice(0, 0, 0, 1, 1);
        x.setChoice(1, 0, 0, 1, 1);
        x.adopt(2, 0, 1);
        x.setChoice(2, 0, 0, 1, 1);
        int[] parents = {SheetVault.NONE, 0, 1, 0, 1};
        for (int version = 0; version < parents.length; version++) {
            checks.is("parent of " + version, x.parent(0, version), parents[version]);
        }
        checks.is("parent in the other sheet", x.parent(1, 1), 0);
        for (int version = 5; version < 16; version++) {
            x.setChoice(3, 0, 0, 1, 1);
        }
        checks.is("the first of a long row", x.parent(0, 5), 0);
        checks.is("the last of a long row", x.parent(0, 15), 14);
    }

    /** "and is owned by the class that has made it". */
    private static void owners(Checks checks) {
        Vault x = Rows.withSheets(1);
        x.setNumber(2, 0, 0, 1, 1, 1);
        for (int group = 0; group < 4; group++) {
            x.adopt(group, 0, 1);
        }
        takes(checks, x, 0, 0, 2, 0);
        x.setWords(0, 0, 0, 1, Rows.row(1, 2, 3));
        takes(checks, x, 3, 0, 2, 0);
        x.adopt(2, 0, 2);
        x.adopt(0, 0, 0);
        takes(checks, x, 3, 0, 2, 0);
        x.drop(2, 0, 0);
        takes(checks, x, 3, 0, 3, 0);
        x.mendWords(0, 2, 0, 1);
        takes(checks, x, 1, 0, 3, 0);
    }

    private static void takes(Checks checks, Vault x, int... due) {
        for (int group = 0; group < 4; group++) {
            checks.is("used by " + group, x.used(group), due[group]);
            checks.is("usedAnew by " + group, x.usedAnew(group), due[group]);
        }
    }

    /** "For each sheet each class has a head, a version, at first 0." */
    private static void headsAtFirst(Checks checks) {
        Vault x = Rows.withSheets(4);
        x.setChoice(1, 2, 0, 1, 1);
        for (int sheet = 0; sheet < 4; sheet++) {
            for (int group = 0; group < 4; group++) {
                checks.is("head", x.head(group, sheet), group == 1 && sheet == 2 ? 1 : 0);
            }
        }
    }

    /** "A version has entries of its own for some of the tasks 0 to 4". */
    private static void entriesForEachTask(Checks checks) {
        for (int task = 0; task < 5; task++) {
            Vault x = Rows.withSheets(1);
            x.setWords(0, 0, task, 3, 1);
            for (int other = 0; other < 5; other++) {
                checks.is("kindOf", x.kindOf(0, 1, other), other == task ? SheetVault.WORDS : SheetVault.NONE);
                checks.is("toldIn", x.toldIn(0, 1, other), other == task ? 1 : SheetVault.NONE);
            }
            checks.is("points", x.points(0, 1), 3);
            int dropped = task;
            checks.state(x, "drop of another task", v -> v.drop(0, 0, (dropped + 1) % 5));
            checks.is("drop", x.drop(0, 0, task), 2);
            checks.is("points of what drops", x.points(0, 2), 0);
        }
        Vault x = CallTable.stateOf("choices");
        for (int version = 0; version < 6; version++) {
            for (int task = 0; task < 5; task++) {
                checks.is("toldIn", x.toldIn(0, version, task), task < version ? task + 1 : SheetVault.NONE);
            }
        }
    }

    /** "told by the nearest entry for it, of itself, its parent, the parent of that, and so on". */
    private static void theNearestEntry(Checks checks) {
        Vault x = Rows.withSheets(1);
        x.setNumber(0, 0, 1, 1, 0, 0);
        x.setChoice(0, 0, 2, 2, 0);
        x.setWords(0, 0, 1, 4, 1);
        x.setChoice(0, 0, 3, 3, 0);
        x.drop(0, 0, 1);
        x.setChoice(0, 0, 4, 5, 0);
        x.setChoice(0, 0, 1, 10, 0);
        int[] tellers = {SheetVault.NONE, 1, 1, 3, 3, 5, 5, 7};
        int[] kinds = {SheetVault.NONE, 0, 0, 2, 2, SheetVault.NONE, SheetVault.NONE, 1};
        int[] points = {0, 1, 3, 6, 9, 5, 10, 20};
        for (int version = 0; version < 8; version++) {
            checks.is("toldIn " + version, x.toldIn(0, version, 1), tellers[version]);
            checks.is("kindOf " + version, x.kindOf(0, version, 1), kinds[version]);
            checks.is("points " + version, x.points(0, version), points[version]);
        }
    }

    private static void theFarthestEntry(Checks checks) {
        Vault x = Rows.withSheets(1);
        x.setNumber(0, 0, 0, 7, 0, 0);
        for (int version = 2; version < 16; version++) {
            x.setChoice(0, 0, 1, 1, 1);
        }
        checks.is("told 14 parents away", x.toldIn(0, 15, 0), 1);
        checks.is("kind 14 parents away", x.kindOf(0, 15, 0), SheetVault.NUMBER);
        checks.is("points 14 parents away", x.points(0, 15), 8);
        checks.is("told nowhere in all parents", x.toldIn(0, 15, 2), SheetVault.NONE);
        checks.is("mend 14 parents away", x.mendNumber(0, 15, 0, 1, 0), 0);
        x.open(0, 0);
        x.say(0, 0, 0, 1);
        checks.is("due 14 parents away", x.due(0, 0), 7);
    }

    /** "it has no such task if there is none, or that drops it". */
    private static void noneOrDropped(Checks checks) {
        Vault x = Rows.withSheets(1);
        checks.state(x, "drop where there is none", v -> v.drop(0, 0, 0));
        x.setNumber(0, 0, 0, 5, 1, 0);
        x.setNumber(0, 0, 1, 4, 1, 0);
        x.drop(0, 0, 0);
        x.setNumber(0, 0, 2, 3, 1, 0);
        checks.is("kindOf what its parent drops", x.kindOf(0, 4, 0), SheetVault.NONE);
        checks.is("toldIn of what its parent drops", x.toldIn(0, 4, 0), 3);
        checks.is("points", x.points(0, 4), 7);
        checks.state(x, "drop of what is dropped", v -> v.drop(0, 0, 0));
        checks.state(x, "mend of what is dropped", v -> v.mendNumber(0, 4, 0, 1, 1));
        checks.state(x, "mend of what is dropped", v -> v.mendChoice(0, 3, 0, 1));
        checks.state(x, "mend of what is dropped", v -> v.mendWords(0, 3, 0, 1));
        checks.state(x, "mend of what is not there", v -> v.mendNumber(0, 4, 3, 1, 1));
        x.open(0, 0);
        checks.state(x, "say for what is dropped", v -> v.say(0, 0, 0, 1));
        checks.state(x, "say for what is not there", v -> v.say(0, 0, 3, 1));
        x.say(0, 0, 1, 1);
        checks.is("due without what is dropped", x.due(0, 0), 4);
        checks.is("it is set again", x.setChoice(0, 0, 0, 2, 0), 5);
        checks.is("points", x.points(0, 5), 9);
        checks.is("drop it again", x.drop(0, 0, 0), 6);
        checks.is("points", x.points(0, 6), 7);
    }

    private static void entriesOfOthers(Checks checks) {
        Vault x = Rows.withSheets(2);
        x.setNumber(0, 0, 0, 5, 1, 0);
        x.setNumber(1, 0, 1, 4, 1, 0);
        checks.is("an entry of a version beside", x.toldIn(0, 2, 0), SheetVault.NONE);
        checks.is("an entry of a child", x.toldIn(0, 0, 0), SheetVault.NONE);
        checks.state(x, "drop of what a version beside has", v -> v.drop(1, 0, 0));
        checks.state(x, "drop of what another sheet has", v -> v.drop(0, 1, 0));
        x.adopt(0, 0, 0);
        checks.state(x, "drop of what a version has that is the head no more", v -> v.drop(0, 0, 0));
        x.adopt(0, 0, 2);
        checks.is("drop of what the adopted head has", x.drop(0, 0, 1), 3);
        checks.is("it stays in the parent", x.kindOf(0, 2, 1), SheetVault.NUMBER);
    }

    /** "by making a version with one entry, whose parent is its head; this becomes its head". */
    private static void revising(Checks checks) {
        Vault x = Rows.withSheets(2);
        x.setNumber(0, 0, 0, 1, 0, 0);
        x.setNumber(0, 0, 1, 1, 0, 0);
        x.adopt(1, 0, 2);
        checks.is("setNumber", x.setNumber(1, 0, 0, 2, 0, 0), 3);
        revised(checks, x, 3, 2);
        checks.is("setChoice", x.setChoice(1, 0, 1, 2, 0), 4);
        revised(checks, x, 4, 3);
        checks.is("setWords", x.setWords(1, 0, 2, 2, 1), 5);
        revised(checks, x, 5, 4);
        checks.is("drop", x.drop(1, 0, 2), 6);
        revised(checks, x, 6, 5);
        for (int version = 3; version < 7; version++) {
            int own = 0;
            for (int task = 0; task < 5; task++) {
                own += x.toldIn(0, version, task) == version ? 1 : 0;
            }
            checks.is("entries of its own", own, 1);
        }
        x.adopt(1, 0, 0);
        x.setNumber(1, 0, 3, 2, 0, 0);
        revised(checks, x, 7, 0);
        checks.is("it has nothing of the head before", x.points(0, 7), 2);
    }

    private static void revised(Checks checks, Vault x, int version, int parent) {
        checks.is("parent", x.parent(0, version), parent);
        checks.is("head", x.head(1, 0), version);
        checks.is("head of another class", x.head(0, 0), 2);
        checks.is("head of a class that did nothing", x.head(2, 0), 0);
        checks.is("head in the other sheet", x.head(1, 1), 0);
    }

    /** "It adopts a version by making it its head." */
    private static void adopting(Checks checks) {
        Vault x = Rows.withSheets(2);
        x.setNumber(0, 0, 0, 1, 0, 0);
        x.setNumber(0, 0, 1, 1, 0, 0);
        x.setNumber(0, 1, 0, 1, 0, 0);
        checks.is("its own head", x.adopt(0, 0, 2), 2);
        checks.is("a parent", x.adopt(0, 0, 1), 2);
        checks.is("the version 0", x.adopt(0, 0, 0), 1);
        checks.is("a child of a child", x.adopt(0, 0, 2), 0);
        checks.is("what another class has made", x.adopt(3, 0, 2), 0);
        checks.is("in the other sheet", x.adopt(3, 1, 1), 0);
        checks.is("head", x.head(3, 0), 2);
        checks.is("head in the other sheet", x.head(3, 1), 1);
        checks.is("head of a class that did nothing", x.head(2, 0), 0);
        checks.is("no version is made", x.versions(0), 3);
        checks.is("nothing is used", x.used(3), 0);
        x.setQuota(3, 0);
        checks.is("a quota of 0 does not matter", x.adopt(3, 0, 1), 2);
    }
}
