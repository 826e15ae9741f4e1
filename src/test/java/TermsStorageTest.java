/** The terms: what entries and answers take, quotas, and folding. */
public final class TermsStorageTest {
    private static final int SIX = Rows.row(1, 2, 3, 4, 5, 6);

    public static void main(String[] args) {
        Checks checks = new Checks();
        entries(checks);
        answers(checks);
        signsThatAreTakenBack(checks);
        theLargestAnswer(checks);
        allThatAClassUses(checks);
        firstQuota(checks);
        quotasOfRevisions(checks);
        quotasOfSays(checks);
        quotasOfMends(checks);
        aQuotaOfZero(checks);
        belowWhatIsUsed(checks);
        quotasOfTheirClass(checks);
        ranges(checks);
        Rows.end(checks);
    }

    private static void uses(Checks checks, Vault x, int group, int due) {
        checks.is("used by " + group, x.used(group), due);
        checks.is("usedAnew by " + group, x.usedAnew(group), due);
    }

    /** "An entry takes: 1 if it drops, 2 for NUMBER, 1 for CHOICE, and as many as its rule has words for WORDS." */
    private static void entries(Checks checks) {
        int[] rows = {1, Rows.row(1, 31), Rows.row(1, 1, 1), Rows.row(31, 1, 2, 3), Rows.row(1, 2, 3, 4, 5), SIX};
        for (int group = 0; group < 4; group++) {
            Vault x = Rows.withSheets(1);
            uses(checks, x, group, 0);
            x.setNumber(group, 0, 0, 10, 1000, 100);
            uses(checks, x, group, 2);
            x.setNumber(group, 0, 1, 1, 0, 0);
            uses(checks, x, group, 4);
            x.setChoice(group, 0, 2, 10, 31);
            uses(checks, x, group, 5);
            x.setChoice(group, 0, 2, 1, 0);
            uses(checks, x, group, 6);
            x.drop(group, 0, 0);
            uses(checks, x, group, 7);
            int due = 7;
            for (int words = 1; words <= 6; words++) {
                x.setWords(group, 0, 3, 10, rows[words - 1]);
                due += words;
                uses(checks, x, group, due);
            }
            for (int other = 0; other < 4; other++) {
                uses(checks, x, other, other == group ? due : 0);
            }
        }
    }

    /** "An answer takes: for each task 1 if a number was said, 1 if the set .. is not empty, and 1 for each word". */
    private static void answers(Checks checks) {
        Vault x = Rows.withSheets(1);
        x.setNumber(0, 0, 0, 1, 0, 0);
        x.setNumber(0, 0, 1, 1, 0, 0);
        x.setChoice(0, 0, 2, 1, 0);
        x.setWords(0, 0, 3, 1, 1);
        x.setWords(0, 0, 4, 1, 1);
        x.adopt(2, 0, 5);
        x.open(7, 0);
        uses(checks, x, 2, 0);
        checks.is("the number 0", x.say(7, 0, 0, 0), 1);
        checks.is("another number", x.say(7, 0, 0, -1000), 1);
        checks.is("the same number", x.say(7, 0, 0, -1000), 1);
        checks.is("a number for another task", x.say(7, 0, 1, 1000), 2);
        checks.is("a sign", x.say(7, 0, 2, 0), 3);
        checks.is("another sign", x.say(7, 0, 2, 4), 3);
        checks.is("a word", x.say(7, 0, 3, 31), 4);
        checks.is("the same word", x.say(7, 0, 3, 31), 5);
        checks.is("a word for another task", x.say(7, 0, 4, 1), 6);
        checks.is("a sign of two taken back", x.say(7, 0, 2, 0), 6);
        uses(checks, x, 2, 6);
        x.hand(7, 0);
        uses(checks, x, 2, 6);
        x.mendNumber(0, 5, 0, -1000, 0);
        x.mendWords(0, 5, 3, Rows.row(31, 31));
        uses(checks, x, 2, 6);
        x.open(8, 0);
        checks.is("an answer of another pupil", x.say(8, 0, 4, 1), 1);
        uses(checks, x, 2, 7);
        x.close(2, 0);
        uses(checks, x, 2, 6);
    }

    private static void signsThatAreTakenBack(Checks checks) {
        Vault x = CallTable.stateOf("opened-choices");
        for (int sign = 0; sign < 5; sign++) {
            checks.is("a sign", x.say(3, 0, 0, sign), 1);
            uses(checks, x, 1, 1);
            checks.is("taken back", x.say(3, 0, 0, sign), 0);
            uses(checks, x, 1, 0);
        }
        for (int sign = 0; sign < 5; sign++) {
            checks.is("a sign more", x.say(3, 0, 0, sign), 1);
        }
        for (int sign = 0; sign < 4; sign++) {
            checks.is("a sign less", x.say(3, 0, 0, sign), 1);
        }
        uses(checks, x, 1, 1);
        checks.is("none is left", x.say(3, 0, 0, 4), 0);
        uses(checks, x, 1, 0);
        checks.is("for another task", x.say(3, 0, 4, 4), 1);
        checks.is("for both", x.say(3, 0, 0, 4), 2);
        uses(checks, x, 1, 2);
    }

    private static void theLargestAnswer(Checks checks) {
        Vault x = CallTable.stateOf("opened-words");
        for (int task = 0; task < 5; task++) {
            for (int word = 1; word <= 12; word++) {
                checks.is("say", x.say(11, 3, task, 1 + word), 12 * task + word);
            }
            int full = task;
            checks.state(x, "a word more", v -> v.say(11, 3, full, 1));
        }
        uses(checks, x, 3, 60);
        checks.is("hand", x.hand(11, 3), 0);
        uses(checks, x, 3, 60);
    }

    /** "A class uses what the entries of all versions take that it owns, and what the answers of its pupils take." */
    private static void allThatAClassUses(Checks checks) {
        Vault x = Rows.withSheets(4);
        for (int sheet = 0; sheet < 4; sheet++) {
            x.setWords(1, sheet, 0, 1, Rows.row(1, 2, 3));
            x.setNumber(1, sheet, 1, 1, 0, 0);
            for (int group = 0; group < 4; group++) {
                x.adopt(group, sheet, 2);
            }
            uses(checks, x, 1, 5 * (sheet + 1));
        }
        for (int sheet = 0; sheet < 4; sheet++) {
            for (int pupil = 3; pupil < 6; pupil++) {
                x.open(pupil, sheet);
                x.say(pupil, sheet, 0, 1);
            }
            x.hand(3, sheet);
            x.open(6, sheet);
            x.say(6, sheet, 0, 1);
        }
        uses(checks, x, 1, 20 + 12);
        uses(checks, x, 2, 4);
        uses(checks, x, 0, 0);
        uses(checks, x, 3, 0);
        x.close(1, 3);
        uses(checks, x, 1, 20 + 10);
        x.mendWords(3, 1, 0, 9);
        uses(checks, x, 1, 18 + 10);
        x.adopt(1, 0, 0);
        uses(checks, x, 1, 18 + 10);
        x.fold(0, 1);
        uses(checks, x, 1, 18 + 10);
    }

    /** "It has a quota, at first 100". */
    private static void firstQuota(Checks checks) {
        for (int group = 0; group < 4; group++) {
            Vault x = Rows.withSheets(2);
            int its = group;
            for (int version = 1; version < 16; version++) {
                x.setWords(group, 0, 0, 1, SIX);
            }
            x.setWords(group, 1, 0, 1, SIX);
            uses(checks, x, group, 96);
            checks.state(x, "up to 101 by words", v -> v.setWords(its, 1, 0, 1, Rows.row(1, 1, 1, 1, 1)));
            checks.is("up to 99", x.setWords(group, 1, 0, 1, Rows.row(1, 1, 1)), 2);
            checks.state(x, "up to 101 by a number", v -> v.setNumber(its, 1, 0, 1, 1, 1));
            checks.is("up to 100", x.drop(group, 1, 0), 3);
            uses(checks, x, group, 100);
            checks.state(x, "101 by a choice", v -> v.setChoice(its, 1, 0, 1, 1));
            checks.is("the quota", x.setQuota(group, 101), 100);
            checks.is("101", x.setChoice(group, 1, 0, 1, 1), 4);
            uses(checks, x, group, 101);
        }
    }

    /** "nothing is done by which a class would use more than its quota and more than before": revising. */
    private static void quotasOfRevisions(Checks checks) {
        int[] rows = {1, Rows.row(1, 1), Rows.row(1, 1, 1), Rows.row(1, 1, 1, 1), Rows.row(1, 1, 1, 1, 1), SIX};
        Vault x = Rows.withSheets(1);
        x.setChoice(3, 0, 4, 1, 1);
        x.setQuota(3, 2);
        checks.state(x, "a number, one too many", v -> v.setNumber(3, 0, 0, 1, 1, 1));
        x.setQuota(3, 3);
        checks.is("a number", x.setNumber(3, 0, 0, 1, 1, 1), 2);
        checks.state(x, "a choice, one too many", v -> v.setChoice(3, 0, 0, 1, 0));
        x.setQuota(3, 4);
        checks.is("a choice", x.setChoice(3, 0, 0, 1, 0), 3);
        checks.state(x, "a drop, one too many", v -> v.drop(3, 0, 0));
        x.setQuota(3, 5);
        checks.is("a drop", x.drop(3, 0, 0), 4);
        int due = 5;
        for (int words = 1; words <= 6; words++) {
            int row = rows[words - 1];
            x.setQuota(3, due + words - 1);
            checks.state(x, "words, one too many", v -> v.setWords(3, 0, 0, 1, row));
            x.setQuota(3, due + words);
            checks.is("words", x.setWords(3, 0, 0, 1, row), 4 + words);
            due += words;
            uses(checks, x, 3, due);
        }
    }

    private static void quotasOfSays(Checks checks) {
        String[] states = {"opened-numbers", "opened-choices", "opened-words"};
        for (int kind = 0; kind < states.length; kind++) {
            Vault x = CallTable.stateOf(states[kind]);
            int before = x.used(0);
            x.setQuota(0, before);
            checks.state(x, "say, one too many", v -> v.say(2, 3, 4, 1));
            x.setQuota(0, before + 1);
            checks.is("say", x.say(2, 3, 4, 1), 1);
            uses(checks, x, 0, before + 1);
            checks.state(x, "say for another task, one too many", v -> v.say(2, 3, 3, 1));
            checks.state(x, "say in another answer, one too many", v -> v.say(1, 3, 4, 1));
            checks.state(x, "say for another sheet, one too many", v -> v.say(2, 0, 4, 1));
            if (kind == 2) {
                checks.state(x, "another word, one too many", v -> v.say(2, 3, 4, 2));
            } else {
                checks.is("another number or sign takes nothing more", x.say(2, 3, 4, 2), 1);
            }
            uses(checks, x, 0, before + 1);
        }
        Vault x = CallTable.stateOf("opened-choices");
        x.setQuota(2, 1);
        checks.is("a sign", x.say(6, 0, 0, 0), 1);
        checks.is("taken back", x.say(6, 0, 0, 0), 0);
        checks.is("for another task", x.say(6, 0, 1, 0), 1);
        checks.state(x, "for the first task", v -> v.say(6, 0, 0, 0));
        uses(checks, x, 2, 1);
    }

    private static void quotasOfMends(Checks checks) {
        Vault x = Rows.withSheets(1);
        x.setWords(2, 0, 0, 1, Rows.row(1, 1));
        x.setNumber(2, 0, 1, 1, 0, 0);
        x.setChoice(2, 0, 2, 1, 0);
        x.adopt(1, 0, 3);
        x.setChoice(1, 0, 3, 1, 0);
        uses(checks, x, 2, 5);
        x.setQuota(1, 0);
        x.setQuota(2, 5);
        for (int each = 1; each <= 4; each++) {
            int version = each;
            checks.state(x, "three words, one too many", v -> v.mendWords(0, version, 0, Rows.row(1, 1, 1)));
            checks.state(x, "six words, four too many", v -> v.mendWords(0, version, 0, SIX));
            checks.is("as many words", x.mendWords(0, version, 0, Rows.row(2, 2)), 0);
            checks.is("less words", x.mendWords(0, version, 0, 3), 0);
            uses(checks, x, 2, 4);
            checks.is("more words, within the quota", x.mendWords(0, version, 0, Rows.row(4, 4)), 0);
            uses(checks, x, 2, 5);
        }
        x.setQuota(2, 9);
        checks.is("six words up to the quota", x.mendWords(0, 4, 0, SIX), 0);
        uses(checks, x, 2, 9);
        uses(checks, x, 1, 1);
        x.setQuota(2, 0);
        checks.is("six words again above the quota", x.mendWords(0, 4, 0, Rows.row(6, 5, 4, 3, 2, 1)), 0);
        checks.is("five words above the quota", x.mendWords(0, 4, 0, Rows.row(6, 5, 4, 3, 2)), 0);
        checks.state(x, "six words above the quota", v -> v.mendWords(0, 4, 0, SIX));
        checks.is("a number above the quota", x.mendNumber(0, 4, 1, 1000, 100), 0);
        checks.is("a choice above the quota", x.mendChoice(0, 4, 2, 31), 0);
        uses(checks, x, 2, 8);
    }

    /** The empty quota: what takes nothing goes, what takes something does not. */
    private static void aQuotaOfZero(Checks checks) {
        Vault x = CallTable.stateOf("numbers");
        x.setQuota(1, 0);
        checks.state(x, "a number", v -> v.setNumber(1, 0, 0, 1, 1, 1));
        checks.state(x, "a choice", v -> v.setChoice(1, 0, 0, 1, 1));
        checks.state(x, "a word", v -> v.setWords(1, 0, 0, 1, 1));
        checks.state(x, "a drop", v -> v.drop(1, 0, 0));
        checks.is("open", x.open(3, 0), 5);
        checks.state(x, "say", v -> v.say(3, 0, 0, 1));
        checks.is("hand", x.hand(3, 0), 0);
        checks.is("adopt", x.adopt(1, 0, 4), 5);
        checks.is("mend for the class 0", x.mendNumber(0, 4, 0, 1, 1), 0);
        checks.is("close", x.close(1, 0), 1);
        uses(checks, x, 1, 0);
    }

    /** setQuota: "it may be less than the class uses"; what uses no more than before is done. */
    private static void belowWhatIsUsed(Checks checks) {
        Vault x = CallTable.stateOf("opened-choices");
        for (int pupil = 0; pupil < 3; pupil++) {
            x.say(pupil, 0, 0, 0);
        }
        uses(checks, x, 0, 23);
        checks.is("less than it uses", x.setQuota(0, 5), 100);
        uses(checks, x, 0, 23);
        checks.is("a sign more", x.say(0, 0, 0, 1), 1);
        checks.is("a sign less", x.say(0, 0, 0, 1), 1);
        checks.is("the last sign taken back", x.say(0, 0, 0, 0), 0);
        uses(checks, x, 0, 22);
        checks.state(x, "a first sign, though less than at first", v -> v.say(0, 0, 0, 0));
        checks.is("fold, which takes away nothing", x.fold(0, 1), 0);
        checks.is("close, which forgets", x.close(0, 0), 0);
        uses(checks, x, 0, 20);
        checks.state(x, "a drop", v -> v.drop(0, 0, 1));
        checks.is("the quota", x.setQuota(0, 21), 5);
        checks.is("a drop up to it", x.drop(0, 0, 1), 6);
        checks.state(x, "one more", v -> v.drop(0, 0, 2));
    }

    private static void quotasOfTheirClass(Checks checks) {
        Vault x = CallTable.stateOf("opened-words");
        x.setQuota(0, 0);
        checks.is("a pupil of another class", x.say(3, 0, 0, 1), 1);
        checks.is("another class", x.setWords(3, 0, 0, 1, SIX), 6);
        checks.is("a mend of the entry of another class", x.mendWords(0, 6, 0, 1), 0);
        checks.state(x, "its own pupil", v -> v.say(0, 0, 0, 1));
        checks.is("quota of another class", x.setQuota(1, 1), 100);
        checks.state(x, "a pupil of that class", v -> v.say(3, 0, 0, 1));
        checks.is("quotas", x.setQuota(0, 1000), 0);
        checks.is("its own pupil", x.say(0, 0, 0, 1), 1);
    }

    /** setQuota: "0 to 1000", and "Returns the quota before". */
    private static void ranges(Checks checks) {
        Vault x = new Vault();
        for (int group = 0; group < 4; group++) {
            int before = 100;
            int[] quotas = {0, 1000, 1, 999, 100, 100, 1000, 0};
            for (int quota : quotas) {
                checks.is("setQuota of " + group, x.setQuota(group, quota), before);
                before = quota;
            }
            int its = group;
            int[] wrong = {-1, 1001, -1000, 65536, Rows.MOST, Rows.LEAST};
            for (int quota : wrong) {
                checks.argument(x, "setQuota of " + quota, v -> v.setQuota(its, quota));
            }
        }
        for (int group = 0; group < 4; group++) {
            checks.is("each class has its own", x.setQuota(group, 7 * group), 0);
        }
        for (int group = 0; group < 4; group++) {
            checks.is("each class has its own", x.setQuota(group, 0), 7 * group);
        }
    }
}
