/** Promises 16 to 18: mendNumber, mendChoice, mendWords. */
public final class MendsTest {
    public static void main(String[] args) {
        Checks checks = new Checks();
        mendNumber(checks);
        mendChoice(checks);
        mendWords(checks);
        mendsReachTheirVersionsAlone(checks);
        openAnswersAreNotCounted(checks);
        closedMarksStay(checks);
        wrongMends(checks);
        quotaOfTheEntry(checks);
        Rows.end(checks);
    }

    private static void mendNumber(Checks checks) {
        Vault x = Rows.withSheets(1);
        x.setNumber(0, 0, 0, 6, 10, 0);
        for (int pupil = 0; pupil < 3; pupil++) {
            x.open(pupil, 0);
        }
        x.say(0, 0, 0, 10);
        x.say(1, 0, 0, 12);
        for (int pupil = 0; pupil < 3; pupil++) {
            x.hand(pupil, 0);
        }
        checks.is("mark", x.mark(0, 0), 6);
        checks.is("mark", x.mark(1, 0), 0);
        checks.is("mendNumber slack", x.mendNumber(0, 1, 0, 10, 2), 1);
        checks.is("mark", x.mark(1, 0), 6);
        checks.is("mendNumber value", x.mendNumber(0, 1, 0, 13, 2), 1);
        checks.is("mark", x.mark(0, 0), 0);
        checks.is("mark", x.mark(1, 0), 6);
        checks.is("mendNumber of both", x.mendNumber(0, 1, 0, 10, 1), 2);
        checks.is("mendNumber to the same", x.mendNumber(0, 1, 0, 10, 1), 0);
        checks.is("a number that was not said is not 0", x.mendNumber(0, 1, 0, 0, 0), 1);
        checks.is("nothing said", x.mark(2, 0), 0);
        checks.is("nothing told", x.told(0, 0), 0);
        checks.is("points stay", x.points(0, 1), 6);
        checks.is("mendNumber at the ends", x.mendNumber(0, 1, 0, -1000, 100), 0);
        checks.is("mendNumber at the ends", x.mendNumber(0, 1, 0, 1000, 0), 0);
        checks.is("used", x.used(0), 4);
    }

    private static void mendChoice(Checks checks) {
        Vault x = Rows.withSheets(1);
        x.setChoice(0, 0, 0, 7, 0b00011);
        x.open(0, 0);
        x.say(0, 0, 0, 0);
        checks.is("hand", x.hand(0, 0), 3);
        checks.is("mendChoice to one sign", x.mendChoice(0, 1, 0, 0b00001), 1);
        checks.is("mark", x.mark(0, 0), 7);
        checks.is("mendChoice to none", x.mendChoice(0, 1, 0, 0), 1);
        checks.is("mark", x.mark(0, 0), 0);
        checks.is("mendChoice to others", x.mendChoice(0, 1, 0, 0b11110), 0);
        checks.is("mendChoice to all", x.mendChoice(0, 1, 0, 31), 1);
        checks.is("mark", x.mark(0, 0), 1);
        checks.is("used", x.used(0), 2);
    }

    private static void mendWords(Checks checks) {
        Vault x = Rows.withSheets(1);
        x.setWords(0, 0, 0, 9, Rows.row(1, 2));
        checks.is("hand", Rows.handWords(x, 0, 0, 0, 2, 3, 4), 4);
        checks.is("used", x.used(0), 5);
        checks.is("mendWords to three", x.mendWords(0, 1, 0, Rows.row(2, 3, 4)), 1);
        checks.is("mark", x.mark(0, 0), 9);
        checks.is("used by a longer rule", x.used(0), 6);
        checks.is("mendWords to six", x.mendWords(0, 1, 0, Rows.row(4, 3, 2, 4, 3, 2)), 1);
        checks.is("mark", x.mark(0, 0), 3);
        checks.is("used by six words", x.used(0), 9);
        checks.is("used anew", x.usedAnew(0), 9);
        checks.is("mendWords to one", x.mendWords(0, 1, 0, 31), 1);
        checks.is("mark", x.mark(0, 0), 0);
        checks.is("used by a shorter rule", x.used(0), 4);
    }

    private static void mendsReachTheirVersionsAlone(Checks checks) {
        Vault x = Rows.withSheets(2);
        x.setNumber(0, 0, 0, 5, 1, 0);
        x.setNumber(0, 1, 0, 5, 1, 0);
        x.adopt(1, 0, 1);
        x.adopt(2, 0, 1);
        x.setChoice(1, 0, 1, 3, 0);
        x.setNumber(2, 0, 0, 4, 2, 0);
        int[] pupils = {0, 3, 6};
        for (int pupil : pupils) {
            x.open(pupil, 0);
            x.say(pupil, 0, 0, 2);
            x.hand(pupil, 0);
        }
        x.open(0, 1);
        x.say(0, 1, 0, 2);
        x.hand(0, 1);
        checks.is("mark in the version 1", x.mark(0, 0), 0);
        checks.is("mark in the version 2", x.mark(3, 0), 3);
        checks.is("mark in the version 3", x.mark(6, 0), 4);
        checks.is("mend by way of the version 2", x.mendNumber(0, 2, 0, 2, 0), 2);
        checks.is("mark in the version 1", x.mark(0, 0), 5);
        checks.is("mark in the version 2", x.mark(3, 0), 8);
        checks.is("mark in the version 3", x.mark(6, 0), 4);
        checks.is("mark in the other sheet", x.mark(0, 1), 0);
        checks.is("mend of the version 3", x.mendNumber(0, 3, 0, 9, 0), 1);
        checks.is("mark in the version 1", x.mark(0, 0), 5);
        checks.is("mark in the version 3", x.mark(6, 0), 0);
    }

    private static void openAnswersAreNotCounted(Checks checks) {
        Vault x = Rows.withSheets(1);
        x.setNumber(0, 0, 0, 5, 1, 0);
        x.open(0, 0);
        x.say(0, 0, 0, 2);
        checks.is("mend with an open answer", x.mendNumber(0, 1, 0, 2, 0), 0);
        checks.is("its due mark", x.due(0, 0), 5);
        checks.is("its mark", x.mark(0, 0), SheetVault.NONE);
        checks.is("hand by the new rule", x.hand(0, 0), 5);
    }

    private static void closedMarksStay(Checks checks) {
        Vault x = Rows.withSheets(1);
        x.setNumber(0, 0, 0, 5, 1, 0);
        x.adopt(1, 0, 1);
        x.open(0, 0);
        x.say(0, 0, 0, 1);
        x.hand(0, 0);
        x.open(3, 0);
        x.say(3, 0, 0, 1);
        x.hand(3, 0);
        x.close(0, 0);
        checks.is("mend of closed and open", x.mendNumber(0, 1, 0, 2, 0), 2);
        checks.is("mark of the closed class", x.mark(0, 0), 5);
        checks.is("due of the closed class", x.due(0, 0), 0);
        checks.is("told to the closed class", x.told(0, 0), 1);
        checks.is("mark of the other class", x.mark(3, 0), 0);
        checks.is("told to the other class", x.told(3, 0), 0);
        checks.is("mend that changes nothing", x.mendNumber(0, 1, 0, 3, 0), 0);
        checks.is("told no more", x.told(0, 0), 1);
        checks.is("mend back to the mark", x.mendNumber(0, 1, 0, 1, 0), 2);
        checks.is("told again", x.told(0, 0), 2);
        checks.is("mark of the closed class", x.mark(0, 0), 5);
        checks.is("average of the closed class", x.average(0, 0), 500);
    }

    private static void wrongMends(Checks checks) {
        Vault x = Rows.withSheets(1);
        x.setNumber(0, 0, 0, 5, 1, 0);
        x.setChoice(0, 0, 1, 5, 1);
        x.setWords(0, 0, 2, 5, 1);
        x.setChoice(0, 0, 3, 5, 1);
        x.drop(0, 0, 3);
        int[] versions = {-1, 6, 16};
        for (int version : versions) {
            checks.index(x, "mendNumber version", v -> v.mendNumber(0, version, 0, 0, -1));
            checks.index(x, "mendChoice version", v -> v.mendChoice(0, version, 1, 99));
            checks.index(x, "mendWords version", v -> v.mendWords(0, version, 2, 0));
        }
        int[] sheets = {-1, 1, 4};
        for (int sheet : sheets) {
            checks.index(x, "mendNumber sheet", v -> v.mendNumber(sheet, 5, 0, 0, -1));
            checks.index(x, "mendChoice sheet", v -> v.mendChoice(sheet, 5, 1, 99));
            checks.index(x, "mendWords sheet", v -> v.mendWords(sheet, 5, 2, 0));
        }
        int[] tasks = {-1, 5};
        for (int task : tasks) {
            checks.index(x, "mendNumber task", v -> v.mendNumber(0, 5, task, 0, -1));
            checks.index(x, "mendChoice task", v -> v.mendChoice(0, 5, task, 99));
            checks.index(x, "mendWords task", v -> v.mendWords(0, 5, task, 0));
        }
        int[] values = {-1001, 1001};
        for (int value : values) {
            checks.argument(x, "mendNumber value", v -> v.mendNumber(0, 5, 0, value, 0));
            checks.argument(x, "mendNumber value, no such task", v -> v.mendNumber(0, 5, 4, value, 0));
        }
        int[] slacks = {-1, 101};
        for (int slack : slacks) {
            checks.argument(x, "mendNumber slack", v -> v.mendNumber(0, 5, 0, 0, slack));
        }
        int[] signs = {-1, 32};
        for (int wrong : signs) {
            checks.argument(x, "mendChoice signs", v -> v.mendChoice(0, 5, 1, wrong));
            checks.argument(x, "mendChoice signs, no such task", v -> v.mendChoice(0, 5, 4, wrong));
        }
        int[] rows = {0, 32, Rows.row(1, 0, 1), 1 << 30, -1, Rows.LEAST};
        for (int row : rows) {
            checks.argument(x, "mendWords row", v -> v.mendWords(0, 5, 2, row));
            checks.argument(x, "mendWords row, no such task", v -> v.mendWords(0, 5, 4, row));
        }
        int[] noNumbers = {1, 2, 3, 4};
        for (int task : noNumbers) {
            checks.state(x, "mendNumber kind", v -> v.mendNumber(0, 5, task, 0, 0));
        }
        int[] noChoices = {0, 2, 3, 4};
        for (int task : noChoices) {
            checks.state(x, "mendChoice kind", v -> v.mendChoice(0, 5, task, 0));
        }
        int[] noWords = {0, 1, 3, 4};
        for (int task : noWords) {
            checks.state(x, "mendWords kind", v -> v.mendWords(0, 5, task, 1));
        }
        checks.is("mend ahead of the drop", x.mendChoice(0, 4, 3, 2), 0);
        checks.state(x, "mend in the version 0", v -> v.mendNumber(0, 0, 0, 0, 0));
    }

    private static void quotaOfTheEntry(Checks checks) {
        Vault x = Rows.withSheets(1);
        x.setWords(0, 0, 0, 5, Rows.row(1, 2));
        x.setNumber(0, 0, 1, 5, 1, 0);
        x.adopt(1, 0, 2);
        x.setChoice(1, 0, 2, 5, 1);
        x.setQuota(1, 0);
        x.setQuota(0, 5);
        checks.is("mend up to the quota of the owner", x.mendWords(0, 3, 0, Rows.row(1, 2, 3)), 0);
        checks.state(x, "mend past the quota of the owner", v -> v.mendWords(0, 3, 0, Rows.row(1, 2, 3, 4)));
        x.setQuota(0, 0);
        checks.is("mend of the same length above the quota", x.mendWords(0, 3, 0, Rows.row(3, 2, 1)), 0);
        checks.is("mend of a lesser length above the quota", x.mendWords(0, 3, 0, Rows.row(3, 2)), 0);
        checks.is("mend of a number above the quota", x.mendNumber(0, 3, 1, 2, 0), 0);
        checks.is("mend of a choice above the quota", x.mendChoice(0, 3, 2, 2), 0);
        checks.is("used by the owner", x.used(0), 4);
        checks.is("used by the other", x.used(1), 1);
        checks.state(x, "mend that would take more", v -> v.mendWords(0, 3, 0, Rows.row(3, 2, 1)));
    }
}
