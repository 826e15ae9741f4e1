/** Promise 8: fold. */
public final class FoldTest {
    public static void main(String[] args) {
        Checks checks = new Checks();
        whatCannotBeFolded(checks);
        withoutChild(checks);
        withChild(checks);
        aDropIsInherited(checks);
        ownEntriesStay(checks);
        quotaOfTheHeir(checks);
        answersKeepTheirTasks(checks);
        mendsReachInheritedEntries(checks);
        Rows.end(checks);
    }

    private static void whatCannotBeFolded(Checks checks) {
        Vault x = Rows.withSheets(1);
        checks.index(x, "fold of no sheet", v -> v.fold(1, 0));
        checks.index(x, "fold of no sheet", v -> v.fold(-1, 0));
        checks.index(x, "fold of no version", v -> v.fold(0, 1));
        checks.index(x, "fold of no version", v -> v.fold(0, -1));
        checks.index(x, "fold of no version", v -> v.fold(0, 16));
        checks.state(x, "fold of the version 0, a head", v -> v.fold(0, 0));
        for (int group = 0; group < 4; group++) {
            x.setChoice(group, 0, 0, 1, 1);
        }
        checks.state(x, "fold of the version 0 with children", v -> v.fold(0, 0));
        checks.state(x, "fold of the head of the class 0", v -> v.fold(0, 1));
        checks.state(x, "fold of the head of the class 3", v -> v.fold(0, 4));
        x.adopt(0, 0, 2);
        checks.is("fold of what is no head any more", x.fold(0, 1), 1);
        checks.index(x, "fold again", v -> v.fold(0, 1));
        x.adopt(1, 0, 4);
        checks.state(x, "fold of the head of a class that has not made it", v -> v.fold(0, 2));

        Vault y = Rows.withSheets(1);
        y.setChoice(0, 0, 0, 1, 1);
        y.open(0, 0);
        y.adopt(0, 0, 0);
        checks.state(y, "fold with an open answer", v -> v.fold(0, 1));
        y.close(0, 0);
        checks.is("fold when the answer was forgotten", y.fold(0, 1), 1);
        y.setChoice(1, 0, 0, 1, 1);
        y.open(3, 0);
        y.hand(3, 0);
        y.adopt(1, 0, 0);
        checks.state(y, "fold with an answer handed in", v -> v.fold(0, 2));
        y.close(1, 0);
        checks.state(y, "fold with an answer handed in, closed", v -> v.fold(0, 2));

        Vault z = Rows.withSheets(1);
        z.setChoice(0, 0, 0, 1, 1);
        z.adopt(1, 0, 1);
        z.setChoice(0, 0, 1, 1, 1);
        z.setChoice(1, 0, 1, 1, 1);
        checks.state(z, "fold with two children", v -> v.fold(0, 1));
        z.adopt(1, 0, 0);
        z.fold(0, 3);
        checks.is("fold with one of them left", z.fold(0, 1), 0);
    }

    private static void withoutChild(Checks checks) {
        Vault x = Rows.withSheets(1);
        x.setWords(0, 0, 0, 1, Rows.row(1, 2, 3, 4));
        x.adopt(0, 0, 0);
        checks.is("fold without child", x.fold(0, 1), 4);
        checks.is("used", x.used(0), 0);
        checks.is("versions", x.versions(0), 1);
    }

    private static void withChild(Checks checks) {
        Vault x = Rows.withSheets(1);
        x.setNumber(0, 0, 0, 1, 5, 0);
        x.setWords(0, 0, 1, 2, Rows.row(1, 2, 3));
        x.setChoice(0, 0, 2, 3, 1);
        checks.is("fold in the middle", x.fold(0, 2), 0);
        checks.is("parent of the child", x.parent(0, 3), 1);
        checks.is("told in the child", x.toldIn(0, 3, 1), 3);
        checks.is("kind in the child", x.kindOf(0, 3, 1), SheetVault.WORDS);
        checks.is("points of the child", x.points(0, 3), 6);
        checks.is("fold next to the version 0", x.fold(0, 1), 0);
        checks.is("parent is the version 0", x.parent(0, 3), 0);
        checks.is("points of the child", x.points(0, 3), 6);
        checks.is("used", x.used(0), 6);
        checks.is("used anew", x.usedAnew(0), 6);
        checks.is("versions", x.versions(0), 2);
        x.adopt(0, 0, 0);
        checks.is("fold of all entries", x.fold(0, 3), 6);
        checks.is("used", x.used(0), 0);
    }

    private static void aDropIsInherited(Checks checks) {
        Vault x = Rows.withSheets(1);
        x.setNumber(0, 0, 0, 4, 5, 0);
        x.drop(0, 0, 0);
        x.setChoice(0, 0, 1, 3, 1);
        checks.is("fold of what drops", x.fold(0, 2), 0);
        checks.is("the child drops", x.kindOf(0, 3, 0), SheetVault.NONE);
        checks.is("told in the child", x.toldIn(0, 3, 0), 3);
        checks.is("fold of what is dropped", x.fold(0, 1), 2);
        checks.is("still dropped", x.toldIn(0, 3, 0), 3);
        checks.is("used", x.used(0), 2);
    }

    private static void ownEntriesStay(Checks checks) {
        Vault x = Rows.withSheets(1);
        x.setNumber(0, 0, 0, 4, 5, 0);
        x.setWords(0, 0, 0, 6, 1);
        checks.is("fold of what is set anew", x.fold(0, 1), 2);
        checks.is("kind", x.kindOf(0, 2, 0), SheetVault.WORDS);
        checks.is("points", x.points(0, 2), 6);

        Vault y = Rows.withSheets(1);
        y.setNumber(0, 0, 0, 4, 5, 0);
        y.adopt(1, 0, 1);
        y.setWords(1, 0, 0, 6, 1);
        y.setChoice(1, 0, 1, 6, 1);
        y.adopt(0, 0, 0);
        checks.is("fold of another class's", y.fold(0, 1), 2);
        checks.is("used by the owner", y.used(0), 0);
        checks.is("used by the heir", y.used(1), 2);
        checks.is("parent", y.parent(0, 2), 0);
    }

    private static void quotaOfTheHeir(Checks checks) {
        Vault x = Rows.withSheets(1);
        x.setWords(0, 0, 0, 4, Rows.row(1, 2, 3));
        x.adopt(1, 0, 1);
        x.setChoice(1, 0, 1, 3, 1);
        x.adopt(0, 0, 0);
        x.setQuota(0, 0);
        x.setQuota(1, 3);
        checks.state(x, "fold past the quota of the heir", v -> v.fold(0, 1));
        x.setQuota(1, 4);
        checks.is("fold up to the quota of the heir", x.fold(0, 1), 0);
        checks.is("used by the owner", x.used(0), 0);
        checks.is("used by the heir", x.used(1), 4);
        checks.is("used by the heir anew", x.usedAnew(1), 4);

        Vault y = Rows.withSheets(1);
        y.setWords(0, 0, 0, 4, Rows.row(1, 2, 3));
        y.adopt(1, 0, 1);
        y.setChoice(1, 0, 0, 3, 1);
        y.adopt(0, 0, 0);
        y.setQuota(1, 0);
        checks.is("fold that gives the heir nothing, above the quota", y.fold(0, 1), 3);

        Vault z = Rows.withSheets(1);
        z.setWords(0, 0, 0, 4, Rows.row(1, 2, 3));
        z.setChoice(0, 0, 1, 3, 1);
        z.setQuota(0, 0);
        checks.is("fold for the same owner, above the quota", z.fold(0, 1), 0);
        checks.is("used by the same owner", z.used(0), 4);
    }

    private static void answersKeepTheirTasks(Checks checks) {
        Vault x = Rows.withSheets(1);
        x.setNumber(0, 0, 0, 4, 5, 0);
        x.setChoice(0, 0, 1, 3, 1);
        x.open(0, 0);
        x.say(0, 0, 0, 5);
        x.fold(0, 1);
        checks.is("due after the fold", x.due(0, 0), 4);
        checks.is("say after the fold", x.say(0, 0, 1, 0), 2);
        checks.is("hand after the fold", x.hand(0, 0), 7);
    }

    private static void mendsReachInheritedEntries(Checks checks) {
        Vault x = Rows.withSheets(1);
        x.setNumber(0, 0, 0, 4, 5, 0);
        x.setChoice(0, 0, 1, 3, 1);
        x.setChoice(0, 0, 2, 3, 1);
        x.open(0, 0);
        x.say(0, 0, 0, 6);
        x.hand(0, 0);
        x.fold(0, 1);
        checks.is("mend of an inherited entry", x.mendNumber(0, 2, 0, 6, 0), 1);
        checks.is("mark", x.mark(0, 0), 4);
    }
}
