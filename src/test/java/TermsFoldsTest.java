/** The terms: folding a version. */
public final class TermsFoldsTest {
    private static final int NONE = SheetVault.NONE;

    public static void main(String[] args) {
        Checks checks = new Checks();
        notTheVersionZero(checks);
        notAHead(checks);
        notWithAnAnswer(checks);
        notMoreThanOneChild(checks);
        childrenOfFoldedOnes(checks);
        inItsSheetAlone(checks);
        withoutChild(checks);
        theParentOfTheChild(checks);
        childrenOfEachNumber(checks);
        allEntriesForOtherTasks(checks);
        entriesOfEachTask(checks);
        theOtherEntriesAreGone(checks);
        dropsAreEntries(checks);
        howMuchLess(checks);
        quotasOfTheChild(checks);
        quotasThatDoNotMatter(checks);
        entriesOfTheChildsClass(checks);
        nothingElseChanges(checks);
        whatWasFolded(checks);
        Rows.end(checks);
    }

    private static void uses(Checks checks, Vault x, int... due) {
        for (int group = 0; group < due.length; group++) {
            checks.is("used by " + group, x.used(group), due[group]);
            checks.is("usedAnew by " + group, x.usedAnew(group), due[group]);
        }
    }

    /** The class 0 makes so many versions, each with a choice of the task of its number less 1. */
    private static Vault row(int versions) {
        Vault x = Rows.withSheets(1);
        for (int version = 1; version <= versions; version++) {
            x.setChoice(0, 0, (version - 1) % 5, version, 1);
        }
        return x;
    }

    /** "if it is not the version 0": neither as a head, nor when it is none, nor when it has one child or none. */
    private static void notTheVersionZero(Checks checks) {
        Vault x = Rows.withSheets(4);
        for (int each = 0; each < 4; each++) {
            int sheet = each;
            checks.state(x, "the version 0 alone", v -> v.fold(sheet, 0));
        }
        Vault y = row(2);
        for (int group = 1; group < 4; group++) {
            y.adopt(group, 0, 2);
        }
        checks.state(y, "the version 0, no head, with one child", v -> v.fold(0, 0));
        y.fold(0, 1);
        checks.state(y, "the version 0 as the parent of the head", v -> v.fold(0, 0));
    }

    /** "is no head", of any class. */
    private static void notAHead(Checks checks) {
        for (int group = 0; group < 4; group++) {
            Vault x = row(3);
            x.adopt(0, 0, 0);
            x.adopt(group, 0, 2);
            checks.state(x, "the head of " + group, v -> v.fold(0, 2));
            checks.is("the parent of the head", x.fold(0, 1), 0);
            checks.is("the child of the head", x.fold(0, 3), 1);
            x.adopt(group, 0, 0);
            checks.is("what is no head any more", x.fold(0, 2), 2);
        }
        Vault x = row(1);
        x.addSheet();
        x.adopt(3, 0, 1);
        x.adopt(0, 0, 0);
        checks.state(x, "adopted by another class alone", v -> v.fold(0, 1));
        checks.index(x, "a version of the same number in another sheet", v -> v.fold(1, 1));
    }

    /** "no answer is tied to it", of any pupil, open or handed in. */
    private static void notWithAnAnswer(Checks checks) {
        for (int each = 0; each < 12; each++) {
            int pupil = each;
            int group = pupil / 3;
            Vault x = row(1);
            x.adopt(group, 0, 1);
            x.open(pupil, 0);
            x.adopt(group, 0, 0);
            x.adopt(0, 0, 0);
            checks.state(x, "tied to an open answer of " + pupil, v -> v.fold(0, 1));
            Vault y = x.again();
            x.hand(pupil, 0);
            checks.state(x, "tied to an answer of " + pupil + " handed in", v -> v.fold(0, 1));
            x.close(group, 0);
            checks.state(x, "tied to an answer that stays when closed", v -> v.fold(0, 1));
            y.close(group, 0);
            checks.is("tied to an answer that is forgotten", y.fold(0, 1), 1);
        }
        Vault x = row(3);
        x.open(0, 0);
        x.hand(0, 0);
        checks.is("its parent is not tied", x.fold(0, 2), 0);
        checks.is("nor the parent of that", x.fold(0, 1), 0);
        x.adopt(0, 0, 0);
        checks.state(x, "tied", v -> v.fold(0, 3));
    }

    /** "not more than one version has it as its parent". */
    private static void notMoreThanOneChild(Checks checks) {
        for (int children = 0; children <= 4; children++) {
            Vault x = row(1);
            for (int group = 0; group < children; group++) {
                x.adopt(group, 0, 1);
                x.setChoice(group, 0, 4, 1, 1);
            }
            x.adopt(0, 0, 0);
            if (children <= 1) {
                checks.is("with so many children: " + children, x.fold(0, 1), children == 0 ? 1 : 0);
            } else {
                checks.state(x, "with so many children: " + children, v -> v.fold(0, 1));
            }
        }
    }

    /** The only child, or one of two, is the version 2, or 3, and so on to the version 15. */
    private static void childrenOfEachNumber(Checks checks) {
        for (int each = 2; each < 16; each++) {
            int child = each;
            Vault x = row(1);
            for (int version = 2; version < child; version++) {
                x.setChoice(3, 0, 1, 1, 1);
            }
            x.adopt(1, 0, 1);
            checks.is("the child", x.setChoice(1, 0, 2, 9, 1), child);
            x.adopt(0, 0, 0);
            Vault y = x.again();
            checks.is("fold with the child " + child, x.fold(0, 1), 0);
            checks.is("its parent", x.parent(0, child), 0);
            checks.is("what it has got", x.toldIn(0, child, 0), child);
            checks.is("points of both", x.points(0, child), 10);
            uses(checks, x, 0, 2, 0, child - 2);
            if (child == 15) {
                continue;
            }
            y.adopt(2, 0, 1);
            for (int version = child + 1; version < 16; version++) {
                y.setChoice(2, 0, 3, 1, 1);
                y.adopt(2, 0, 0);
            }
            checks.state(y, "fold with the children " + child + " and " + (child + 1), v -> v.fold(0, 1));
        }
        Vault x = row(1);
        for (int version = 2; version < 15; version++) {
            x.setChoice(3, 0, 1, 1, 1);
        }
        Vault y = x.again();
        y.adopt(3, 0, 1);
        y.setChoice(3, 0, 1, 1, 1);
        checks.state(y, "fold of a head with the child 15", v -> v.fold(0, 1));
        y.adopt(0, 0, 0);
        checks.is("fold with the child 15", y.fold(0, 1), 0);
        x.adopt(0, 0, 14);
        x.setChoice(0, 0, 1, 1, 1);
        x.adopt(3, 0, 0);
        checks.is("fold of 14 with the child 15", x.fold(0, 14), 1);
        checks.is("the parent of 15", x.parent(0, 15), 13);
    }

    private static void childrenOfFoldedOnes(Checks checks) {
        Vault x = row(2);
        x.adopt(1, 0, 1);
        x.setChoice(1, 0, 4, 1, 1);
        x.setChoice(1, 0, 4, 1, 1);
        checks.state(x, "two children", v -> v.fold(0, 1));
        checks.is("fold of a child that has a child", x.fold(0, 3), 1);
        checks.is("the child of the child comes up", x.parent(0, 4), 1);
        checks.state(x, "two children again", v -> v.fold(0, 1));
        x.adopt(1, 0, 0);
        checks.is("fold of a child that has none", x.fold(0, 4), 1);
        checks.is("one child is left", x.fold(0, 1), 0);
        checks.is("its parent", x.parent(0, 2), 0);

        Vault y = row(4);
        checks.is("from the first one", y.fold(0, 1), 0);
        checks.is("on", y.fold(0, 2), 0);
        checks.is("and on", y.fold(0, 3), 0);
        checks.is("points of the last one", y.points(0, 4), 10);
        checks.is("parent of the last one", y.parent(0, 4), 0);
        for (int task = 0; task < 4; task++) {
            checks.is("toldIn of the last one", y.toldIn(0, 4, task), 4);
        }
        checks.is("versions", y.versions(0), 2);
        uses(checks, y, 4, 0, 0, 0);
        Vault z = row(4);
        checks.is("from the last but one", z.fold(0, 3), 0);
        checks.is("back", z.fold(0, 2), 0);
        checks.is("and back", z.fold(0, 1), 0);
        checks.is("points of the last one", z.points(0, 4), 10);
        checks.is("parent of the last one", z.parent(0, 4), 0);
    }

    /** Heads, answers and children in another sheet do not matter. */
    private static void inItsSheetAlone(Checks checks) {
        Vault x = Rows.withSheets(2);
        for (int sheet = 0; sheet < 2; sheet++) {
            x.setChoice(0, sheet, 0, 1, 1);
        }
        x.adopt(0, 1, 0);
        checks.is("a head of the same number in another sheet", x.again().fold(1, 1), 1);
        x.open(0, 0);
        x.adopt(0, 0, 0);
        checks.is("an answer in another sheet", x.again().fold(1, 1), 1);
        for (int group = 1; group < 4; group++) {
            x.adopt(group, 0, 1);
            x.setChoice(group, 0, 1, 1, 1);
        }
        checks.is("children in another sheet", x.again().fold(1, 1), 1);
        checks.is("fold", x.fold(1, 1), 1);
        checks.is("the other sheet stays", x.versions(0), 5);
        checks.is("the other sheet stays", x.points(0, 2), 2);
        checks.state(x, "the one in the other sheet", v -> v.fold(0, 1));
    }

    /** "To fold a version is to take it away". */
    private static void withoutChild(Checks checks) {
        Vault x = row(2);
        x.adopt(0, 0, 1);
        checks.is("fold of the last one", x.fold(0, 2), 1);
        checks.is("versions", x.versions(0), 2);
        checks.is("its parent stays as it is", x.toldIn(0, 1, 1), NONE);
        checks.is("points of its parent", x.points(0, 1), 1);
        uses(checks, x, 1, 0, 0, 0);
    }

    /** "If one has, that gets the parent of the folded version as its own". */
    private static void theParentOfTheChild(Checks checks) {
        Vault x = row(4);
        checks.is("fold of 3", x.fold(0, 3), 0);
        checks.is("parent of 4", x.parent(0, 4), 2);
        checks.is("parent of 2", x.parent(0, 2), 1);
        checks.is("fold of 1", x.fold(0, 1), 0);
        checks.is("parent of 2", x.parent(0, 2), 0);
        checks.is("parent of 4", x.parent(0, 4), 2);
        checks.is("fold of 2", x.fold(0, 2), 0);
        checks.is("parent of 4", x.parent(0, 4), 0);
        checks.is("head", x.head(0, 0), 4);
    }

    /** "and all entries of the folded version for tasks for which it has no own ones". */
    private static void allEntriesForOtherTasks(Checks checks) {
        Vault x = Rows.withSheets(1);
        x.setNumber(0, 0, 0, 1, 5, 0);
        x.setChoice(0, 0, 1, 2, 1);
        x.setWords(0, 0, 2, 3, Rows.row(1, 2, 3));
        x.setNumber(0, 0, 3, 4, 5, 0);
        x.setChoice(0, 0, 4, 5, 0);
        for (int version = 1; version < 5; version++) {
            checks.is("fold", x.fold(0, version), 0);
        }
        checks.is("points of all five", x.points(0, 5), 15);
        int[] kinds = {0, 1, 2, 0, 1};
        for (int task = 0; task < 5; task++) {
            checks.is("kindOf", x.kindOf(0, 5, task), kinds[task]);
            checks.is("toldIn", x.toldIn(0, 5, task), 5);
        }
        uses(checks, x, 9, 0, 0, 0);
        x.drop(0, 0, 4);
        checks.is("fold of five entries into one of its own", x.fold(0, 5), 1);
        checks.is("points of four", x.points(0, 6), 10);
        checks.is("what it drops", x.kindOf(0, 6, 4), NONE);
        uses(checks, x, 9, 0, 0, 0);
        x.open(0, 0);
        x.say(0, 0, 0, 5);
        x.say(0, 0, 1, 0);
        Rows.sayAll(x, 0, 0, 2, 1, 2, 3);
        x.say(0, 0, 3, 5);
        checks.is("the rules came along", x.hand(0, 0), 10);
        checks.is("mend of what came along", x.mendNumber(0, 6, 3, 6, 0), 1);
        checks.is("mend of words that came along", x.mendWords(0, 6, 2, 1), 0);
        uses(checks, x, 7 + 6, 0, 0, 0);
    }

    /** An entry of each kind for each task goes to a child that has an entry for another task, of either class. */
    private static void entriesOfEachTask(Checks checks) {
        int[] takes = {2, 1, 3, 1};
        for (int task = 0; task < 5; task++) {
            for (int kind = 0; kind < 4; kind++) {
                for (int group = 0; group < 2; group++) {
                    Vault x = Rows.withSheets(1);
                    int before = setEach(x, task, kind);
                    x.adopt(group, 0, before);
                    int other = (task + 1) % 5;
                    int child = x.setChoice(group, 0, other, 4, 1);
                    x.adopt(0, 0, child);
                    checks.is("fold", x.fold(0, before), 0);
                    checks.is("toldIn", x.toldIn(0, child, task), child);
                    checks.is("kindOf", x.kindOf(0, child, task), kind < 3 ? kind : NONE);
                    checks.is("kindOf of its own", x.kindOf(0, child, other), SheetVault.CHOICE);
                    checks.is("points", x.points(0, child), kind < 3 ? 7 : 4);
                    int first = kind < 3 ? 0 : 1;
                    uses(checks, x, first + (group == 0 ? takes[kind] + 1 : 0), group == 0 ? 0 : takes[kind] + 1);
                }
            }
        }
    }

    /** The class 0 makes a version with an entry of this kind, or one that drops. */
    private static int setEach(Vault x, int task, int kind) {
        switch (kind) {
            case SheetVault.NUMBER: return x.setNumber(0, 0, task, 3, 1, 1);
            case SheetVault.CHOICE: return x.setChoice(0, 0, task, 3, 1);
            case SheetVault.WORDS: return x.setWords(0, 0, task, 3, Rows.row(1, 2, 3));
            default:
                x.setChoice(0, 0, task, 3, 1);
                return x.drop(0, 0, task);
        }
    }

    /** "the other entries are gone". */
    private static void theOtherEntriesAreGone(Checks checks) {
        Vault x = Rows.withSheets(1);
        x.setWords(0, 0, 0, 9, Rows.row(1, 2, 3, 4, 5, 6));
        x.setNumber(0, 0, 0, 4, 7, 0);
        checks.is("fold of what is set again", x.fold(0, 1), 6);
        checks.is("kindOf", x.kindOf(0, 2, 0), SheetVault.NUMBER);
        checks.is("points", x.points(0, 2), 4);
        x.open(0, 0);
        x.say(0, 0, 0, 7);
        checks.is("the own rule", x.hand(0, 0), 4);
        uses(checks, x, 3, 0, 0, 0);

        Vault y = Rows.withSheets(1);
        for (int version = 1; version <= 10; version++) {
            y.setNumber(0, 0, (version - 1) % 5, version, 1, 0);
        }
        int[] order = {1, 2, 3, 4, 6, 7, 8, 9};
        for (int version : order) {
            checks.is("fold", y.fold(0, version), 0);
        }
        checks.is("all five in both", y.points(0, 10), 40);
        checks.is("all five in both", y.points(0, 5), 15);
        checks.is("fold of all five", y.fold(0, 5), 10);
        checks.is("all five stay", y.points(0, 10), 40);
        uses(checks, y, 10, 0, 0, 0);
    }

    private static void dropsAreEntries(Checks checks) {
        Vault x = Rows.withSheets(1);
        x.setNumber(0, 0, 0, 1, 1, 1);
        x.drop(0, 0, 0);
        x.setChoice(0, 0, 1, 1, 1);
        x.setChoice(0, 0, 2, 1, 1);
        checks.is("fold of a drop", x.fold(0, 2), 0);
        checks.is("the child drops", x.toldIn(0, 3, 0), 3);
        checks.is("the child drops", x.kindOf(0, 3, 0), NONE);
        uses(checks, x, 5, 0, 0, 0);
        checks.is("fold of what it drops", x.fold(0, 1), 2);
        checks.is("it drops what is not there any more", x.toldIn(0, 3, 0), 3);
        checks.is("kindOf", x.kindOf(0, 4, 0), NONE);
        checks.state(x, "drop of it", v -> v.drop(0, 0, 0));
        uses(checks, x, 3, 0, 0, 0);
        checks.is("fold of two entries", x.fold(0, 3), 0);
        checks.is("toldIn", x.toldIn(0, 4, 0), 4);
        uses(checks, x, 3, 0, 0, 0);

        Vault y = Rows.withSheets(1);
        y.setNumber(0, 0, 0, 1, 1, 1);
        y.drop(0, 0, 0);
        y.setChoice(0, 0, 0, 7, 1);
        checks.is("fold of a drop of what is set again", y.fold(0, 2), 1);
        checks.is("kindOf", y.kindOf(0, 3, 0), SheetVault.CHOICE);
        checks.is("fold of what a child sets again", y.fold(0, 1), 2);
        checks.is("points", y.points(0, 3), 7);
        Vault z = Rows.withSheets(1);
        z.setNumber(0, 0, 0, 1, 1, 1);
        z.drop(0, 0, 0);
        checks.is("fold of what the child drops", z.fold(0, 1), 2);
        checks.is("it is dropped yet", z.kindOf(0, 2, 0), NONE);
        checks.is("told in the child", z.toldIn(0, 2, 0), 2);
    }

    /** fold "Returns how much less all classes use together by that." */
    private static void howMuchLess(Checks checks) {
        Vault x = Rows.withSheets(1);
        x.setWords(0, 0, 0, 1, Rows.row(1, 2, 3, 4, 5, 6));
        x.setNumber(0, 0, 1, 1, 1, 1);
        x.setChoice(0, 0, 2, 1, 1);
        x.fold(0, 1);
        x.fold(0, 2);
        uses(checks, x, 9, 0, 0, 0);
        x.adopt(3, 0, 3);
        x.setNumber(3, 0, 1, 1, 1, 1);
        x.adopt(0, 0, 0);
        checks.is("between two classes, less the number", x.fold(0, 3), 2);
        uses(checks, x, 0, 0, 0, 9);
        x.adopt(3, 0, 0);
        checks.is("all of it", x.fold(0, 4), 9);
        uses(checks, x, 0, 0, 0, 0);
    }

    private static Vault between() {
        Vault x = Rows.withSheets(1);
        x.setWords(1, 0, 0, 1, Rows.row(1, 2, 3, 4));
        x.setNumber(1, 0, 1, 1, 1, 1);
        x.fold(0, 1);
        x.adopt(2, 0, 2);
        x.setChoice(2, 0, 1, 1, 1);
        x.adopt(1, 0, 0);
        uses(new Checks(), x, 0, 6, 1, 0);
        return x;
    }

    /** "or the quota would be passed by a class that owns the version which gets entries". */
    private static void quotasOfTheChild(Checks checks) {
        int[] quotas = {0, 1, 4};
        for (int quota : quotas) {
            Vault x = between();
            x.setQuota(2, quota);
            checks.state(x, "fold with a quota of " + quota, v -> v.fold(0, 2));
            uses(checks, x, 0, 6, 1, 0);
        }
        Vault x = between();
        x.setQuota(2, 5);
        checks.is("fold up to the quota", x.fold(0, 2), 2);
        uses(checks, x, 0, 0, 5, 0);
        Vault y = between();
        y.open(6, 0);
        Rows.sayAll(y, 6, 0, 0, 1, 2, 3);
        y.setQuota(2, 7);
        checks.state(y, "fold past the quota by answers", v -> v.fold(0, 2));
        y.setQuota(2, 8);
        checks.is("fold up to the quota with answers", y.fold(0, 2), 2);
        uses(checks, y, 0, 0, 8, 0);
    }

    /** A class that gets no entries, or uses no more than before, does not pass its quota. */
    private static void quotasThatDoNotMatter(Checks checks) {
        Vault x = between();
        x.setQuota(1, 0);
        x.setQuota(0, 0);
        x.setQuota(3, 0);
        checks.is("the quota of the folded one's class", x.fold(0, 2), 2);

        Vault y = Rows.withSheets(1);
        y.setNumber(1, 0, 1, 1, 1, 1);
        y.adopt(2, 0, 1);
        y.setChoice(2, 0, 1, 1, 1);
        y.adopt(1, 0, 0);
        y.setQuota(2, 0);
        checks.is("no entries for a class above its quota", y.fold(0, 1), 2);
        uses(checks, y, 0, 0, 1, 0);

        Vault z = row(2);
        z.setQuota(0, 0);
        checks.is("entries of the same class above its quota", z.fold(0, 1), 0);
        uses(checks, z, 2, 0, 0, 0);
        z.adopt(0, 0, 0);
        checks.is("no child above the quota", z.fold(0, 2), 2);
        uses(checks, z, 0, 0, 0, 0);
    }

    /** What the child gets is its own then: a mend of it counts for the class that owns the child. */
    private static void entriesOfTheChildsClass(Checks checks) {
        Vault x = between();
        x.fold(0, 2);
        x.setQuota(1, 0);
        x.setQuota(2, 6);
        checks.state(x, "two words more", v -> v.mendWords(0, 3, 0, Rows.row(1, 2, 3, 4, 5, 6)));
        checks.is("a word more", x.mendWords(0, 3, 0, Rows.row(1, 2, 3, 4, 5)), 0);
        uses(checks, x, 0, 0, 6, 0);
        checks.is("words less", x.mendWords(0, 3, 0, 1), 0);
        uses(checks, x, 0, 0, 2, 0);
    }

    /** What the versions have as tasks, the answers and the marks stay. */
    private static void nothingElseChanges(Checks checks) {
        Vault x = Rows.withSheets(1);
        x.setWords(0, 0, 0, 10, 1);
        x.setChoice(0, 0, 1, 3, 0);
        x.setNumber(0, 0, 2, 2, 4, 0);
        x.setChoice(0, 0, 1, 4, 0);
        Rows.handWords(x, 0, 0, 0, 1, 2, 3, 4);
        Rows.handWords(x, 1, 0, 0, 1, 2, 3, 4);
        x.open(2, 0);
        checks.is("fold of 1", x.fold(0, 1), 0);
        checks.is("fold of 2", x.fold(0, 2), 0);
        checks.is("fold of 3", x.fold(0, 3), 1);
        checks.is("points", x.points(0, 4), 16);
        checks.is("mark", x.mark(0, 0), 14);
        checks.is("due", x.due(0, 0), 14);
        checks.is("fingerprints", x.fingerprints(0, 0), 2);
        checks.is("pairs", x.pairs(0), 1);
        checks.is("pairsAnew", x.pairsAnew(0), 1);
        checks.is("say", x.say(2, 0, 2, 4), 1);
        checks.is("hand", x.hand(2, 0), 6);
        checks.is("mend of what came along", x.mendWords(0, 4, 0, Rows.row(1, 2, 3)), 0);
        checks.is("fingerprints by the mended rule", x.fingerprints(0, 0), 1);
        checks.is("pairs", x.pairs(0), 0);
        checks.is("pairsAnew", x.pairsAnew(0), 0);
    }

    private static void whatWasFolded(Checks checks) {
        Vault x = row(3);
        x.fold(0, 2);
        checks.index(x, "fold again", v -> v.fold(0, 2));
        checks.index(x, "parent", v -> v.parent(0, 2));
        checks.index(x, "points", v -> v.points(0, 2));
        checks.index(x, "kindOf", v -> v.kindOf(0, 2, 0));
        checks.index(x, "toldIn", v -> v.toldIn(0, 2, 0));
        checks.index(x, "adopt", v -> v.adopt(0, 0, 2));
        checks.index(x, "mendChoice", v -> v.mendChoice(0, 2, 0, 1));
        checks.is("versions", x.versions(0), 3);
        checks.is("the next number", x.setChoice(0, 0, 0, 1, 1), 4);
    }
}
