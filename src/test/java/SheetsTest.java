/** Promises 1, 2 and 9: a new object, addSheet, sheets; and what is empty and what is full in all of it. */
public final class SheetsTest {
    public static void main(String[] args) {
        Checks checks = new Checks();
        aNewObject(checks);
        addSheet(checks);
        aNewSheet(checks);
        aFullObject(checks);
        Rows.end(checks);
    }

    private static void aNewObject(Checks checks) {
        Vault x = new Vault();
        checks.is("sheets() of a new object", x.sheets(), 0);
        for (int group = 0; group < 4; group++) {
            checks.is("used of a new object", x.used(group), 0);
            checks.is("usedAnew of a new object", x.usedAnew(group), 0);
            checks.is("the first quota", x.setQuota(group, 100), 100);
        }
        checks.index(x, "versions(0)", v -> v.versions(0));
        checks.index(x, "head(0, 0)", v -> v.head(0, 0));
        checks.index(x, "open(0, 0)", v -> v.open(0, 0));
        checks.index(x, "pairs(0)", v -> v.pairs(0));
    }

    private static void addSheet(Checks checks) {
        Vault x = new Vault();
        for (int sheet = 0; sheet < 4; sheet++) {
            checks.is("addSheet()", x.addSheet(), sheet);
            checks.is("sheets()", x.sheets(), sheet + 1);
            checks.is("versions of a new sheet", x.versions(sheet), 1);
            checks.is("parent of the version 0", x.parent(sheet, 0), SheetVault.NONE);
            checks.is("points of the version 0", x.points(sheet, 0), 0);
            for (int group = 0; group < 4; group++) {
                checks.is("head of a new sheet", x.head(group, sheet), 0);
            }
            for (int task = 0; task < 5; task++) {
                checks.is("kind in the version 0", x.kindOf(sheet, 0, task), SheetVault.NONE);
                checks.is("told in the version 0", x.toldIn(sheet, 0, task), SheetVault.NONE);
            }
            int next = sheet + 1;
            checks.index(x, "versions of the next sheet", v -> v.versions(next));
        }
        checks.state(x, "addSheet() with 4", v -> v.addSheet());
        checks.is("sheets() after that", x.sheets(), 4);
        checks.index(x, "versions(-1)", v -> v.versions(-1));
        checks.index(x, "versions(4)", v -> v.versions(4));
    }

    /** There are no answers, no marks and no pairs in it, and nothing to drop, to mend, to fold or to hand in. */
    private static void aNewSheet(Checks checks) {
        Vault x = Rows.withSheets(1);
        for (int pupil = 0; pupil < 12; pupil++) {
            checks.is("answer", x.answer(pupil, 0), SheetVault.NO_ANSWER);
            checks.is("mark", x.mark(pupil, 0), SheetVault.NONE);
            checks.is("due", x.due(pupil, 0), SheetVault.NONE);
            checks.is("told", x.told(pupil, 0), 0);
            checks.is("fingerprints", x.fingerprints(pupil, 0), 0);
            checks.is("likeness", x.likeness(0, pupil, 11 - pupil), 0);
            int its = pupil;
            checks.state(x, "say", v -> v.say(its, 0, 0, 1));
            checks.state(x, "hand", v -> v.hand(its, 0));
        }
        for (int each = 0; each < 4; each++) {
            int group = each;
            checks.is("average", x.average(group, 0), SheetVault.NONE);
            checks.state(x, "drop", v -> v.drop(group, 0, group));
        }
        checks.is("withPrint", x.withPrint(0, 1057), 0);
        checks.is("pairs", x.pairs(0), 0);
        checks.is("pairsAnew", x.pairsAnew(0), 0);
        checks.index(x, "pairAt(0)", v -> v.pairAt(0, 0));
        checks.index(x, "pairAt(-1)", v -> v.pairAt(0, -1));
        checks.state(x, "fold", v -> v.fold(0, 0));
        checks.state(x, "mendNumber", v -> v.mendNumber(0, 0, 0, 0, 0));
        checks.state(x, "mendChoice", v -> v.mendChoice(0, 0, 0, 0));
        checks.state(x, "mendWords", v -> v.mendWords(0, 0, 0, 1));
        checks.is("adopt", x.adopt(3, 0, 0), 0);
        checks.is("close", x.close(0, 0), 0);
        checks.is("open", x.open(11, 0), 0);
    }

    /** 4 sheets, 64 versions, 48 answers that are handed in, 264 pairs: and one more of each is refused. */
    private static void aFullObject(Checks checks) {
        Vault x = Rows.withSheets(4);
        for (int sheet = 0; sheet < 4; sheet++) {
            x.setWords(sheet, sheet, sheet, 5, 1);
            for (int group = 0; group < 4; group++) {
                x.adopt(group, sheet, 1);
            }
            for (int pupil = 0; pupil < 12; pupil++) {
                checks.is("hand", Rows.handWords(x, pupil, sheet, sheet, 1, 2, 1, 3), 5);
            }
            for (int version = 2; version < 16; version++) {
                checks.is("a version", x.setChoice(version % 4, sheet, 4, 1, 0), version);
            }
        }
        for (int each = 0; each < 4; each++) {
            int sheet = each;
            Vault asked = x.again();
            checks.is("versions", asked.versions(sheet), 16);
            checks.is("pairs", asked.pairs(sheet), 66);
            checks.is("pairsAnew", asked.pairsAnew(sheet), 66);
            checks.is("the last pair", asked.pairAt(sheet, 65), 1011);
            checks.is("with print", asked.withPrint(sheet, Rows.print(2, 1, 3)), 4095);
            checks.is("used", asked.used(sheet), 49 + (sheet < 2 ? 12 : 16));
            checks.is("used anew", asked.usedAnew(sheet), 49 + (sheet < 2 ? 12 : 16));
            checks.index(asked, "a pair more", v -> v.pairAt(sheet, 66));
            checks.state(asked, "a version more", v -> v.setChoice(sheet, sheet, 0, 1, 1));
            checks.state(asked, "an answer more", v -> v.open(3 * sheet, sheet));
            checks.is("mend for all", asked.mendWords(sheet, 15, sheet, Rows.row(1, 2, 1, 3, 31)), 12);
            checks.is("pairs by the mended rule", asked.pairs(sheet), 0);
            checks.is("pairsAnew by the mended rule", asked.pairsAnew(sheet), 0);
            checks.is("marks by the mended rule", asked.average(3, sheet), 400);
        }
        checks.state(x, "a sheet more", v -> v.addSheet());
    }
}
