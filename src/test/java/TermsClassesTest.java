/** The terms: classes, pupils and sheets. What is below and above their ranges stands in EndsTest, for every call. */
public final class TermsClassesTest {
    public static void main(String[] args) {
        Checks checks = new Checks();
        fourClasses(checks);
        pupilsOfClasses(checks);
        pupilsTakeFromTheirClass(checks);
        pupilsAreClosedWithTheirClass(checks);
        pupilsCountForTheirClass(checks);
        fourSheets(checks);
        theCall512(checks);
        Rows.end(checks);
    }

    /** "There are 4 classes, 0 to 3". */
    private static void fourClasses(Checks checks) {
        Vault x = Rows.withSheets(1);
        for (int group = 0; group < 4; group++) {
            checks.is("a version of the class " + group, x.setChoice(group, 0, group, 1, 1), group + 1);
            checks.is("its quota", x.setQuota(group, 200 + group), 100);
        }
        for (int group = 0; group < 4; group++) {
            checks.is("head of the class " + group, x.head(group, 0), group + 1);
            checks.is("parent of its version", x.parent(0, group + 1), 0);
            checks.is("used by it", x.used(group), 1);
            checks.is("its quota", x.setQuota(group, 0), 200 + group);
        }
        checks.index(x, "the class -1", v -> v.head(-1, 0));
        checks.index(x, "the class 4", v -> v.head(4, 0));
    }

    /** "12 pupils, 0 to 11; the pupil p is in the class p divided by 3, rounded down". */
    private static void pupilsOfClasses(Checks checks) {
        Vault x = Rows.withSheets(1);
        for (int group = 0; group < 4; group++) {
            x.setChoice(group, 0, 0, 1, 1);
        }
        int[] classes = {0, 0, 0, 1, 1, 1, 2, 2, 2, 3, 3, 3};
        for (int pupil = 0; pupil < 12; pupil++) {
            checks.is("the pupil " + pupil + " opens", x.open(pupil, 0), classes[pupil] + 1);
        }
        checks.index(x, "the pupil -1", v -> v.answer(-1, 0));
        checks.index(x, "the pupil 12", v -> v.answer(12, 0));
    }

    private static void pupilsTakeFromTheirClass(Checks checks) {
        int[] classes = {0, 0, 0, 1, 1, 1, 2, 2, 2, 3, 3, 3};
        for (int pupil = 0; pupil < 12; pupil++) {
            Vault x = CallTable.stateOf("opened-words");
            x.say(pupil, 0, 0, 1);
            for (int group = 0; group < 4; group++) {
                int due = (group == 0 ? 20 : 0) + (group == classes[pupil] ? 1 : 0);
                checks.is("used by " + group + " with a word of " + pupil, x.used(group), due);
                checks.is("the same anew", x.usedAnew(group), due);
            }
            int its = pupil;
            x.setQuota(classes[pupil], 0);
            checks.state(x, "a word more of " + pupil, v -> v.say(its, 0, 0, 1));
        }
    }

    private static void pupilsAreClosedWithTheirClass(Checks checks) {
        for (int group = 0; group < 4; group++) {
            Vault x = CallTable.stateOf("opened-words");
            checks.is("close", x.close(group, 0), 0);
            for (int pupil = 0; pupil < 12; pupil++) {
                boolean closed = pupil >= 3 * group && pupil <= 3 * group + 2;
                int due = closed ? SheetVault.NO_ANSWER : SheetVault.OPEN;
                checks.is("answer of " + pupil + " when " + group + " is closed", x.answer(pupil, 0), due);
            }
        }
    }

    private static void pupilsCountForTheirClass(Checks checks) {
        for (int pupil = 0; pupil < 12; pupil++) {
            Vault x = CallTable.stateOf("opened-words");
            x.say(pupil, 0, 0, 1);
            checks.is("hand", x.hand(pupil, 0), 2);
            for (int group = 0; group < 4; group++) {
                boolean its = pupil >= 3 * group && pupil <= 3 * group + 2;
                checks.is("average of " + group + " by " + pupil, x.average(group, 0), its ? 200 : SheetVault.NONE);
                checks.is("close of " + group + " with " + pupil, x.close(group, 0), its ? 1 : 0);
            }
        }
    }

    /** "Sheets are numbered from 0, at most 4." */
    private static void fourSheets(Checks checks) {
        Vault x = new Vault();
        for (int sheet = 0; sheet < 4; sheet++) {
            int next = sheet;
            checks.index(x, "a sheet that is not yet there", v -> v.versions(next));
            checks.is("addSheet", x.addSheet(), sheet);
            checks.is("versions", x.versions(sheet), 1);
            checks.is("sheets", x.sheets(), sheet + 1);
        }
        checks.state(x, "a fifth sheet", v -> v.addSheet());
        checks.state(x, "a fifth sheet, asked again", v -> v.addSheet());
        checks.is("sheets", x.sheets(), 4);
        checks.index(x, "the sheet -1", v -> v.versions(-1));
        checks.index(x, "the sheet 4", v -> v.versions(4));
        for (int sheet = 0; sheet < 4; sheet++) {
            checks.is("a version of the sheet " + sheet, x.setChoice(sheet, sheet, 0, 1 + sheet, 1), 1);
        }
        for (int sheet = 0; sheet < 4; sheet++) {
            checks.is("versions of the sheet " + sheet, x.versions(sheet), 2);
            checks.is("points of its version", x.points(sheet, 1), 1 + sheet);
        }
    }

    /** "An object is used for at most 512 calls after it has been made": the 512th one is answered yet. */
    private static void theCall512(Checks checks) {
        Vault x = CallTable.stateOf("opened-words");
        int[] words = {1, 2, 3, 4};
        Rows.sayAll(x, 0, 0, 0, words);
        Rows.sayAll(x, 1, 0, 0, words);
        while (x.callsLeft() > 2) {
            checks.is("mend", x.mendWords(0, 1, 0, 1 + x.callsLeft() % 2), 0);
        }
        checks.is("the call 511", x.hand(0, 0), 2);
        checks.is("the call 512", x.hand(1, 0), 2);
        checks.is("calls left", x.callsLeft(), 0);

        Vault y = CallTable.stateOf("paired");
        while (y.callsLeft() > 1) {
            checks.is("pairs", y.callsLeft() % 2 == 0 ? y.pairs(3) : y.pairsAnew(3), 1);
        }
        checks.is("the call 512", y.likeness(3, 0, 1), 100);
    }
}
