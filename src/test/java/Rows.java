/** Short ways to make what many tests need. */
final class Rows {
    static final int MOST = Integer.MAX_VALUE;
    static final int LEAST = Integer.MIN_VALUE;

    private Rows() {
    }

    /** A row of words, the first one in the lowest bits. */
    static int row(int... words) {
        int row = 0;
        for (int place = words.length - 1; place >= 0; place--) {
            row = row << 5 | words[place];
        }
        return row;
    }

    /** A fingerprint. */
    static int print(int first, int second, int third) {
        return 1024 * first + 32 * second + third;
    }

    static Vault withSheets(int sheets) {
        Vault vault = new Vault();
        for (int sheet = 0; sheet < sheets; sheet++) {
            vault.addSheet();
        }
        return vault;
    }

    static void sayAll(Vault vault, int pupil, int sheet, int task, int... words) {
        for (int word : words) {
            vault.say(pupil, sheet, task, word);
        }
    }

    /** Opens a sheet, says words for a task, and hands in; returns the mark. */
    static int handWords(Vault vault, int pupil, int sheet, int task, int... words) {
        vault.open(pupil, sheet);
        sayAll(vault, pupil, sheet, task, words);
        return vault.hand(pupil, sheet);
    }

    static void end(Checks checks) {
        System.out.println("  " + checks.passed + " checks hold, " + checks.failed + " do not");
        if (checks.failed != 0 || checks.passed == 0) {
            System.exit(1);
        }
    }
}
