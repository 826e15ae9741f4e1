/** Promises 34 to 36: setQuota, used, usedAnew. */
public final class StorageTest {
    public static void main(String[] args) {
        Checks checks = new Checks();
        setQuota(checks);
        used(checks);
        firstQuota(checks);
        Rows.end(checks);
    }

    private static void setQuota(Checks checks) {
        Vault x = new Vault();
        checks.is("setQuota", x.setQuota(0, 0), 100);
        checks.is("setQuota", x.setQuota(0, 1000), 0);
        checks.argument(x, "setQuota 1001", v -> v.setQuota(0, 1001));
        checks.argument(x, "setQuota -1", v -> v.setQuota(0, -1));
        checks.argument(x, "setQuota the most", v -> v.setQuota(0, Rows.MOST));
        checks.argument(x, "setQuota the least", v -> v.setQuota(0, Rows.LEAST));
        checks.index(x, "setQuota class 4", v -> v.setQuota(4, 0));
        checks.index(x, "setQuota class -1", v -> v.setQuota(-1, 0));
        checks.index(x, "setQuota class and range", v -> v.setQuota(4, 1001));
        checks.is("setQuota", x.setQuota(0, 5), 1000);
        checks.is("setQuota of another class", x.setQuota(3, 5), 100);
        x.addSheet();
        x.setNumber(0, 0, 0, 1, 1, 1);
        checks.is("less than the class uses", x.setQuota(0, 1), 5);
        checks.is("used stays", x.used(0), 2);
    }

    private static void used(Checks checks) {
        Vault x = Rows.withSheets(2);
        x.setNumber(0, 0, 0, 1, 1, 1);
        x.setChoice(0, 0, 1, 1, 0);
        x.setWords(0, 1, 2, 1, Rows.row(1, 2, 3, 4, 5, 6));
        x.drop(0, 1, 2);
        same(checks, x, 0, 10);
        x.adopt(3, 0, 2);
        same(checks, x, 3, 0);
        x.open(9, 0);
        same(checks, x, 3, 0);
        x.say(9, 0, 0, 1);
        x.say(9, 0, 1, 1);
        same(checks, x, 3, 2);
        x.setWords(3, 0, 2, 1, 1);
        x.open(11, 0);
        Rows.sayAll(x, 11, 0, 2, 1, 1, 1);
        same(checks, x, 3, 6);
        x.hand(11, 0);
        same(checks, x, 3, 6);
        x.close(3, 0);
        same(checks, x, 3, 4);
        same(checks, x, 0, 10);
        same(checks, x, 1, 0);
        checks.index(x, "used class 4", v -> v.used(4));
        checks.index(x, "used class -1", v -> v.used(-1));
        checks.index(x, "usedAnew class 4", v -> v.usedAnew(4));
        checks.index(x, "usedAnew class -1", v -> v.usedAnew(-1));
    }

    private static void same(Checks checks, Vault x, int group, int due) {
        checks.is("used", x.used(group), due);
        checks.is("usedAnew", x.usedAnew(group), due);
    }

    private static void firstQuota(Checks checks) {
        Vault x = Rows.withSheets(2);
        int six = Rows.row(1, 1, 1, 1, 1, 1);
        for (int version = 1; version < 16; version++) {
            x.setWords(2, 0, 0, 1, six);
        }
        x.setNumber(2, 1, 0, 1, 1, 1);
        x.setNumber(2, 1, 0, 1, 1, 1);
        same(checks, x, 2, 94);
        checks.is("up to 100", x.setWords(2, 1, 0, 1, six), 3);
        same(checks, x, 2, 100);
        checks.state(x, "101", v -> v.setChoice(2, 1, 0, 1, 1));
        checks.is("another class", x.setChoice(1, 1, 0, 1, 1), 4);
    }
}
