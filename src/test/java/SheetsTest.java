/** Promises 1, 2 and 9: a new object, addSheet, sheets. */
public final class SheetsTest {
    public static void main(String[] args) {
        Checks checks = new Checks();
        aNewObject(checks);
        addSheet(checks);
        Rows.end(checks);
    }

    private static void aNewObject(Checks checks) {
        Vault x = new Vault();
        checks.is("sheets() of a new object", x.sheets(), 0);
        for (int group = 0; group < 4; group++) {
            checks.is("used of a new object", x.used(group), 0);
            checks.is("usedAnew of a new object", x.usedAnew(group), 0);
            checks.is("the first quota", x.setQuota(group, 100), 100);
        }
        checks.index(x, "versions(0)", v -> v.versions(0));
        checks.index(x, "head(0, 0)", v -> v.head(0, 0));
        checks.index(x, "open(0, 0)", v -> v.open(0, 0));
        checks.index(x, "pairs(0)", v -> v.pairs(0));
    }

    private static void addSheet(Checks checks) {
        Vault x = new Vault();
        for (int sheet = 0; sheet < 4; sheet++) {
            checks.is("addSheet()", x.addSheet(), sheet);
            checks.is("sheets()", x.sheets(), sheet + 1);
            checks.is("versions of a new sheet", x.versions(sheet), 1);
            checks.is("parent of the version 0", x.parent(sheet, 0), SheetVault.NONE);
            checks.is("points of the version 0", x.points(sheet, 0), 0);
            for (int group = 0; group < 4; group++) {
                checks.is("head of a new sheet", x.head(group, sheet), 0);
            }
            for (int task = 0; task < 5; task++) {
                checks.is("kind in the version 0", x.kindOf(sheet, 0, task), SheetVault.NONE);
                checks.is("told in the version 0", x.toldIn(sheet, 0, task), SheetVault.NONE);
            }
            int next = sheet + 1;
            checks.index(x, "versions of the next sheet", v -> v.versions(next));
        }
        checks.state(x, "addSheet() with 4", v -> v.addSheet());
        checks.is("sheets() after that", x.sheets(), 4);
        checks.index(x, "versions(-1)", v -> v.versions(-1));
        checks.index(x, "versions(4)", v -> v.versions(4));
    }
}
