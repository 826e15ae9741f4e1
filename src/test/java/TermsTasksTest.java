import java.util.Arrays;

/** The terms: tasks, what they give, and what it is to mend them. */
public final class TermsTasksTest {
    private static final int[] NOTHING = {};

    public static void main(String[] args) {
        Checks checks = new Checks();
        pointsOfTasks(checks);
        valuesAndSlacks(checks);
        theLastNumber(checks);
        noNumber(checks);
        signs(checks);
        signsSaidAgain(checks);
        wrongSigns(checks);
        choicesRoundedDown(checks);
        theEmptySet(checks);
        rowsOfWords(checks);
        twelveWords(checks);
        longestRows(checks);
        wordsRoundedDown(checks);
        theSum(checks);
        emptyAtFirst(checks);
        rulesAsTheyAreNow(checks);
        mendedForAllVersions(checks);
        mendedForEachTask(checks);
        pointsStay(checks);
        mendedToTheEnds(checks);
        Rows.end(checks);
    }

    /** Says all that for the only task of the head, and checks the due mark ahead of the hand, the mark, and both. */
    private static void gives(Checks checks, Vault x, int due, int... said) {
        x.open(0, 0);
        Rows.sayAll(x, 0, 0, 0, said);
        String what = Arrays.toString(said);
        checks.is("due of " + what, x.due(0, 0), due);
        checks.is("hand of " + what, x.hand(0, 0), due);
        checks.is("mark of " + what, x.mark(0, 0), due);
        checks.is("due of " + what + " when handed in", x.due(0, 0), due);
    }

    private static void number(Checks checks, int points, int value, int slack, int due, int... said) {
        Vault x = Rows.withSheets(1);
        x.setNumber(0, 0, 0, points, value, slack);
        gives(checks, x, due, said);
    }

    private static void choice(Checks checks, int points, int signs, int due, int... said) {
        Vault x = Rows.withSheets(1);
        x.setChoice(0, 0, 0, points, signs);
        gives(checks, x, due, said);
    }

    private static void words(Checks checks, int points, int row, int due, int... said) {
        Vault x = Rows.withSheets(1);
        x.setWords(0, 0, 0, points, row);
        gives(checks, x, due, said);
    }

    /** "Each task has points, 1 to 10". */
    private static void pointsOfTasks(Checks checks) {
        for (int points = 1; points <= 10; points++) {
            number(checks, points, 7, 0, points, 7);
            choice(checks, points, 0b00100, points, 2);
            words(checks, points, Rows.row(8, 9), points, 8, 9);
            Vault x = Rows.withSheets(1);
            x.setNumber(0, 0, 0, points, 7, 0);
            checks.is("points", x.points(0, 1), points);
        }
        Vault x = Rows.withSheets(1);
        int[] wrong = {0, 11};
        for (int points : wrong) {
            checks.argument(x, "setNumber", v -> v.setNumber(0, 0, 0, points, 0, 0));
            checks.argument(x, "setChoice", v -> v.setChoice(0, 0, 0, points, 0));
            checks.argument(x, "setWords", v -> v.setWords(0, 0, 0, points, 1));
        }
    }

    /** "a value, -1000 to 1000, and a slack, 0 to 100"; "all points if it is not more than the slack away". */
    private static void valuesAndSlacks(Checks checks) {
        number(checks, 10, 500, 0, 10, 500);
        number(checks, 10, 500, 0, 0, 501);
        number(checks, 10, 500, 0, 0, 499);
        number(checks, 7, 500, 1, 7, 499);
        number(checks, 7, 500, 1, 7, 501);
        number(checks, 7, 500, 1, 0, 498);
        number(checks, 7, 500, 1, 0, 502);
        number(checks, 7, 500, 100, 7, 400);
        number(checks, 7, 500, 100, 7, 600);
        number(checks, 7, 500, 100, 0, 399);
        number(checks, 7, 500, 100, 0, 601);
        number(checks, 1, -1000, 0, 1, -1000);
        number(checks, 1, -1000, 0, 0, -999);
        number(checks, 1, 1000, 0, 1, 1000);
        number(checks, 1, 1000, 0, 0, 999);
        number(checks, 5, 1000, 100, 5, 900);
        number(checks, 5, 1000, 100, 0, 899);
        number(checks, 5, -1000, 100, 5, -900);
        number(checks, 5, -1000, 100, 0, -899);
        number(checks, 5, 1000, 100, 0, -1000);
        number(checks, 5, -1000, 100, 0, 1000);
        number(checks, 5, -50, 100, 5, 50);
        number(checks, 5, -50, 100, 0, 51);
        number(checks, 5, 50, 100, 5, -50);
        number(checks, 5, 50, 100, 0, -51);
        number(checks, 5, 0, 0, 5, 0);
        number(checks, 5, 0, 0, 0, -1);
        number(checks, 5, 300, 0, 0, -300);
    }

    /** "The last number that was said counts." */
    private static void theLastNumber(Checks checks) {
        number(checks, 4, 6, 0, 4, 5, 6);
        number(checks, 4, 6, 0, 0, 6, 5);
        number(checks, 4, 6, 0, 4, 6, 5, 6);
        number(checks, 4, 6, 1, 0, 6, 7, -1000);
        number(checks, 4, 0, 0, 4, 1000, -1000, 0);
        number(checks, 4, 6, 0, 4, 1, 2, 3, 4, 5, 7, 8, 9, 10, 11, 12, 13, 14, 6);
    }

    /** "otherwise, or if none was said, 0". */
    private static void noNumber(Checks checks) {
        number(checks, 10, 0, 0, 0, NOTHING);
        number(checks, 10, 0, 100, 0, NOTHING);
        number(checks, 10, -1, 100, 0, NOTHING);
        number(checks, 10, -1000, 0, 0, NOTHING);
        number(checks, 10, 1000, 100, 0, NOTHING);
    }

    /** "the rule is a set of the signs 0 to 4"; "with r right ones". */
    private static void signs(Checks checks) {
        for (int sign = 0; sign < 5; sign++) {
            choice(checks, 10, 1 << sign, 10, sign);
            choice(checks, 10, 1 << sign, 0, (sign + 1) % 5);
            choice(checks, 10, 31, 2, sign);
            choice(checks, 10, 31 - (1 << sign), 0, sign);
        }
        choice(checks, 10, 31, 10, 0, 1, 2, 3, 4);
        choice(checks, 10, 31, 10, 4, 3, 2, 1, 0);
        choice(checks, 10, 31, 8, 4, 2, 1, 0);
        choice(checks, 10, 31, 0, NOTHING);
        choice(checks, 10, 0b10001, 10, 4, 0);
        Vault x = CallTable.stateOf("opened-choices");
        checks.argument(x, "the sign -1", v -> v.say(0, 0, 0, -1));
        checks.argument(x, "the sign 5", v -> v.say(0, 0, 0, 5));
    }

    /** "a sign that is said again is not in what was said any more". */
    private static void signsSaidAgain(Checks checks) {
        choice(checks, 10, 0b00001, 0, 0, 0);
        choice(checks, 10, 0b00001, 10, 0, 0, 0);
        choice(checks, 10, 0b00001, 10, 0, 4, 4);
        choice(checks, 10, 0b00001, 10, 4, 0, 4);
        choice(checks, 10, 0b00011, 5, 0, 1, 0);
        choice(checks, 10, 0b00011, 10, 0, 1, 0, 0);
        choice(checks, 10, 31, 0, 0, 1, 2, 3, 4, 0, 1, 2, 3, 4);
        choice(checks, 10, 31, 2, 0, 1, 2, 3, 4, 0, 1, 2, 3);
    }

    /** "r less w, but times 0 at least". */
    private static void wrongSigns(Checks checks) {
        choice(checks, 10, 0b00001, 0, 0, 1);
        choice(checks, 10, 0b00001, 0, 0, 1, 2);
        choice(checks, 10, 0b00001, 0, 1, 2, 3, 4);
        choice(checks, 10, 0b00011, 5, 0, 1, 2);
        choice(checks, 10, 0b00011, 0, 0, 1, 2, 3);
        choice(checks, 10, 0b00011, 0, 0, 1, 2, 3, 4);
        choice(checks, 10, 0b01111, 7, 0, 1, 2, 3, 4);
        Vault x = Rows.withSheets(1);
        x.setChoice(0, 0, 0, 10, 0b00001);
        x.setNumber(0, 0, 1, 3, 0, 0);
        x.open(0, 0);
        Rows.sayAll(x, 0, 0, 0, 1, 2, 3);
        x.say(0, 0, 1, 0);
        checks.is("wrong signs take nothing from another task", x.due(0, 0), 3);
        checks.is("hand", x.hand(0, 0), 3);
    }

    /** "divided by the number of signs in the rule, rounded down". */
    private static void choicesRoundedDown(Checks checks) {
        choice(checks, 1, 0b00011, 0, 0);
        choice(checks, 1, 0b00011, 1, 0, 1);
        choice(checks, 10, 0b00111, 3, 0);
        choice(checks, 10, 0b00111, 6, 0, 2);
        choice(checks, 10, 0b00111, 3, 0, 1, 3);
        choice(checks, 9, 31, 7, 0, 1, 2, 3);
        choice(checks, 4, 31, 0, 0);
        choice(checks, 4, 31, 3, 0, 1, 2, 3);
    }

    /** "If the rule is the empty set, it gets all points if nothing is in what was said, otherwise 0." */
    private static void theEmptySet(Checks checks) {
        choice(checks, 10, 0, 10, NOTHING);
        choice(checks, 1, 0, 1, NOTHING);
        for (int sign = 0; sign < 5; sign++) {
            choice(checks, 10, 0, 0, sign);
            choice(checks, 10, 0, 10, sign, sign);
        }
        choice(checks, 10, 0, 0, 0, 1);
        choice(checks, 10, 0, 0, 0, 1, 0);
        choice(checks, 10, 0, 10, 0, 1, 0, 1);
        choice(checks, 10, 0, 0, 0, 1, 2, 3, 4);
    }

    /** "the rule is a row of 1 to 6 words, each 1 to 31". */
    private static void rowsOfWords(Checks checks) {
        for (int word = 1; word <= 31; word++) {
            words(checks, 5, Rows.row(word), 5, word);
            words(checks, 5, Rows.row(word), 0, word == 31 ? 1 : word + 1);
        }
        int[] six = {31, 1, 16, 8, 4, 2};
        for (int length = 1; length <= 6; length++) {
            int[] some = Arrays.copyOf(six, length);
            words(checks, 10, Rows.row(some), 10, some);
            words(checks, 10, Rows.row(some), 10 * (length - 1) / length, Arrays.copyOf(six, length - 1));
        }
        Vault x = CallTable.stateOf("opened-words");
        checks.argument(x, "the word 0", v -> v.say(0, 0, 0, 0));
        checks.argument(x, "the word 32", v -> v.say(0, 0, 0, 32));
        checks.argument(x, "a row of none", v -> v.setWords(0, 0, 0, 1, 0));
        checks.argument(x, "a row of seven", v -> v.setWords(0, 0, 0, 1, 1 << 30 | Rows.row(1, 1, 1, 1, 1, 1)));
    }

    /** "Words are said one behind the other, at most 12." */
    private static void twelveWords(Checks checks) {
        Vault x = CallTable.stateOf("opened-words");
        for (int word = 1; word <= 12; word++) {
            checks.is("say the word " + word, x.say(0, 0, 0, word == 12 ? 1 : 2), word);
        }
        checks.is("the 12th counts", x.due(0, 0), 2);
        checks.state(x, "the 13th word", v -> v.say(0, 0, 0, 1));
        checks.state(x, "the 13th word, another one", v -> v.say(0, 0, 0, 31));
        checks.is("used", x.used(0), 20 + 12);
        checks.is("another task has its own 12", x.say(0, 0, 4, 1), 13);
        checks.is("another pupil has its own 12", x.say(1, 0, 0, 1), 1);
        checks.is("another sheet has its own 12", x.say(0, 1, 0, 1), 1);
        checks.is("hand", x.hand(0, 0), 4);
        for (int points = 1; points <= 10; points++) {
            Vault full = Rows.withSheets(1);
            full.setWords(0, 0, 0, points, 1);
            full.open(0, 0);
            Rows.sayAll(full, 0, 0, 0, 2, 2, 2, 2, 2, 2, 2, 2, 2, 2, 2, 2);
            checks.state(full, "the 13th word", v -> v.say(0, 0, 0, 1));
            checks.is("it is not said", full.hand(0, 0), 0);
        }
        words(checks, 10, 1, 10, 2, 2, 2, 2, 2, 2, 2, 2, 2, 2, 2, 1);
        words(checks, 10, Rows.row(1, 1, 1, 1, 1, 1), 10, 2, 1, 2, 1, 2, 1, 2, 1, 2, 1, 2, 1);

        Vault y = CallTable.stateOf("opened-numbers");
        Vault z = CallTable.stateOf("opened-choices");
        for (int said = 0; said < 14; said++) {
            checks.is("numbers are not counted", y.say(0, 0, 0, said), 1);
            checks.is("signs are not counted", z.say(0, 0, 0, 0), 1 - said % 2);
        }
    }

    /** "the length of the longest row that can be had from both by leaving words out". */
    private static void longestRows(Checks checks) {
        int five = Rows.row(1, 2, 3, 4, 5);
        words(checks, 10, five, 0, NOTHING);
        words(checks, 10, five, 0, 6, 7, 8);
        words(checks, 10, five, 2, 5, 4, 3, 2, 1);
        words(checks, 10, five, 4, 1, 5);
        words(checks, 10, five, 4, 5, 1, 2);
        words(checks, 10, five, 6, 1, 9, 3, 9, 5);
        words(checks, 10, five, 8, 2, 3, 4, 5, 1);
        words(checks, 10, five, 8, 5, 1, 2, 3, 4);
        words(checks, 10, five, 8, 1, 2, 4, 5, 3);
        words(checks, 10, five, 6, 4, 1, 2, 5, 3);
        words(checks, 10, five, 10, 1, 1, 2, 2, 3, 3, 4, 4, 5, 5);
        words(checks, 10, five, 10, 9, 9, 9, 9, 9, 9, 9, 1, 2, 3, 4, 5);
        words(checks, 10, five, 10, 5, 4, 3, 2, 1, 2, 3, 2, 3, 4, 5, 1);
        words(checks, 10, Rows.row(1, 2, 1, 2, 1), 6, 1, 1, 1);
        words(checks, 10, Rows.row(1, 2, 1, 2, 1), 4, 2, 2, 2);
        words(checks, 10, Rows.row(1, 2, 1, 2, 1), 8, 2, 1, 2, 1, 2);
        words(checks, 10, Rows.row(1, 1, 1, 1, 1), 2, 1);
        words(checks, 10, Rows.row(1, 1, 1, 1, 1), 10, 1, 1, 1, 1, 1, 1, 1);
    }

    /** "divided by the number of words in the rule, rounded down". */
    private static void wordsRoundedDown(Checks checks) {
        int six = Rows.row(1, 2, 3, 4, 5, 6);
        words(checks, 10, six, 1, 6);
        words(checks, 10, six, 3, 1, 6);
        words(checks, 10, six, 5, 1, 2, 3);
        words(checks, 10, six, 6, 1, 2, 3, 4);
        words(checks, 10, six, 8, 1, 2, 3, 4, 5);
        words(checks, 5, six, 0, 3);
        words(checks, 5, six, 4, 2, 3, 4, 5, 6);
        words(checks, 1, six, 0, 1, 2, 3, 4, 5);
        words(checks, 1, six, 1, 1, 2, 3, 4, 5, 6);
        words(checks, 1, Rows.row(1, 2), 0, 1);
        words(checks, 10, Rows.row(1, 2, 3), 3, 3);
        words(checks, 10, Rows.row(1, 2, 3), 6, 2, 3);
    }

    /** "The due mark of an answer is the sum over all tasks that its version has". */
    private static void theSum(Checks checks) {
        Vault x = Rows.withSheets(1);
        x.open(11, 0);
        checks.is("no tasks", x.due(11, 0), 0);
        x.setNumber(0, 0, 0, 10, 1, 0);
        x.setChoice(0, 0, 1, 10, 0b00010);
        x.setWords(0, 0, 2, 10, 1);
        x.setNumber(0, 0, 3, 10, 1, 0);
        x.setChoice(0, 0, 4, 10, 0b00010);
        x.open(0, 0);
        for (int task = 0; task < 5; task++) {
            checks.is("due with so many tasks right", x.due(0, 0), 10 * task);
            x.say(0, 0, task, 1);
        }
        checks.is("all five tasks", x.due(0, 0), 50);
        checks.is("points of all five", x.points(0, 5), 50);
        checks.is("hand", x.hand(0, 0), 50);
        checks.is("average", x.average(0, 0), 5000);
        x.drop(0, 0, 2);
        x.open(1, 0);
        for (int task = 0; task < 5; task++) {
            if (task != 2) {
                x.say(1, 0, task, 1);
            }
        }
        checks.is("without what is dropped", x.hand(1, 0), 40);
        x.setWords(0, 0, 2, 1, 1);
        x.open(2, 0);
        x.say(2, 0, 2, 1);
        checks.is("with what is set again", x.hand(2, 0), 1);
        checks.is("the first one keeps its version", x.due(0, 0), 50);
    }

    /** "What was said for a task is empty at first." */
    private static void emptyAtFirst(Checks checks) {
        Vault x = Rows.withSheets(2);
        x.setNumber(0, 0, 0, 10, 0, 100);
        x.setChoice(0, 0, 1, 10, 31);
        x.setChoice(0, 0, 2, 9, 0);
        x.setWords(0, 0, 3, 10, 1);
        for (int pupil = 0; pupil < 3; pupil++) {
            x.open(pupil, 0);
            checks.is("due at first", x.due(pupil, 0), 9);
            checks.is("nothing is taken at first", x.used(0), 5 + pupil * 4);
            checks.is("a number takes 1", x.say(pupil, 0, 0, 1), 1);
            checks.is("a sign takes 1", x.say(pupil, 0, 1, 1), 2);
            checks.is("another sign takes 1", x.say(pupil, 0, 2, 1), 3);
            checks.is("a word takes 1", x.say(pupil, 0, 3, 1), 4);
        }
        Vault y = CallTable.stateOf("opened-words");
        checks.is("hand an empty answer", y.hand(0, 0), 0);
        checks.is("it has no fingerprints", y.fingerprints(0, 0), 0);
    }

    /** "by the rules as they are now". */
    private static void rulesAsTheyAreNow(Checks checks) {
        Vault x = Rows.withSheets(1);
        x.setNumber(0, 0, 0, 10, 1, 0);
        x.setChoice(0, 0, 1, 10, 0);
        x.setWords(0, 0, 2, 10, Rows.row(1, 2));
        x.open(0, 0);
        x.say(0, 0, 0, 5);
        x.say(0, 0, 2, 9);
        x.open(1, 0);
        x.say(1, 0, 0, 5);
        x.say(1, 0, 2, 9);
        checks.is("hand", x.hand(1, 0), 10);
        checks.is("mendNumber", x.mendNumber(0, 3, 0, 5, 0), 1);
        bothDues(checks, x, 20);
        checks.is("mendChoice", x.mendChoice(0, 3, 1, 1), 1);
        bothDues(checks, x, 10);
        checks.is("mendWords", x.mendWords(0, 3, 2, Rows.row(9, 1)), 1);
        bothDues(checks, x, 15);
        checks.is("mendWords", x.mendWords(0, 3, 2, 9), 1);
        bothDues(checks, x, 20);
        checks.is("hand later", x.hand(0, 0), 20);
    }

    private static void bothDues(Checks checks, Vault x, int due) {
        checks.is("due of the open answer", x.due(0, 0), due);
        checks.is("due of the answer handed in", x.due(1, 0), due);
        checks.is("mark of the answer handed in", x.mark(1, 0), due);
    }

    /** "wherever that is; so it is mended for all versions that have it from this entry". */
    private static void mendedForAllVersions(Checks checks) {
        for (int by = 1; by <= 4; by++) {
            Vault x = Rows.withSheets(1);
            x.setNumber(0, 0, 0, 6, 1, 0);
            x.setChoice(0, 0, 1, 1, 1);
            x.adopt(1, 0, 1);
            x.setChoice(1, 0, 1, 1, 1);
            x.setChoice(1, 0, 2, 1, 1);
            x.adopt(2, 0, 2);
            x.setNumber(2, 0, 0, 7, 1, 0);
            x.adopt(3, 0, 2);
            x.drop(3, 0, 0);
            for (int version = 1; version < 7; version++) {
                x.adopt(0, 0, version);
                x.adopt(3, 0, version);
                int pupil = version <= 3 ? version - 1 : version + 5;
                x.open(pupil, 0);
                if (version < 6) {
                    x.say(pupil, 0, 0, 2);
                }
                x.hand(pupil, 0);
            }
            checks.is("mend by way of the version " + by, x.mendNumber(0, by, 0, 2, 0), 4);
            int[] pupils = {0, 1, 2, 9, 10, 11};
            int[] marks = {6, 6, 6, 6, 0, 0};
            for (int place = 0; place < pupils.length; place++) {
                checks.is("mark in the version " + (place + 1), x.mark(pupils[place], 0), marks[place]);
            }
            checks.is("mend of the version that has its own", x.mendNumber(0, 5, 0, 2, 0), 1);
            checks.is("its mark", x.mark(10, 0), 7);
            checks.state(x, "mend of the version that drops", v -> v.mendNumber(0, 6, 0, 2, 0));
            checks.state(x, "mend of the version 0", v -> v.mendNumber(0, 0, 0, 2, 0));
        }
    }

    /** Each task alone has its entry, in a version of another class than the others. */
    private static void mendedForEachTask(Checks checks) {
        for (int task = 0; task < 5; task++) {
            Vault x = Rows.withSheets(1);
            x.setWords(3, 0, task, 4, Rows.row(1, 2));
            x.adopt(1, 0, 1);
            checks.is("mend of the only task", x.mendWords(0, 1, task, 2), 0);
            checks.is("used by its class", x.used(3), 1);
            for (int other = 0; other < 5; other++) {
                if (other != task) {
                    x.setNumber(1, 0, other, 1, 1, 0);
                }
            }
            x.setQuota(1, 0);
            x.setQuota(3, 3);
            int its = task;
            checks.state(x, "past the quota of its class", v -> v.mendWords(0, 5, its, Rows.row(1, 2, 3, 4)));
            x.open(3, 0);
            x.hand(3, 0);
            x.setQuota(1, 100);
            x.open(4, 0);
            x.say(4, 0, task, 3);
            x.hand(4, 0);
            checks.is("mend up to the quota of its class", x.mendWords(0, 5, task, Rows.row(1, 2, 3)), 1);
            checks.is("mark", x.mark(4, 0), 1);
            checks.is("mark of nothing said", x.mark(3, 0), 0);
            checks.is("used by its class", x.used(3), 3);
            checks.is("used by the other class", x.used(1), 8 + 1);
            for (int other = 0; other < 5; other++) {
                int number = other;
                if (other != task) {
                    checks.state(x, "mend of another kind", v -> v.mendWords(0, 5, number, 1));
                }
            }
        }
    }

    /** "Points stay." */
    private static void pointsStay(Checks checks) {
        Vault x = Rows.withSheets(1);
        x.setNumber(0, 0, 0, 10, 0, 0);
        x.setChoice(0, 0, 1, 1, 0);
        x.setWords(0, 0, 2, 7, 1);
        x.mendNumber(0, 3, 0, 9, 9);
        x.mendChoice(0, 3, 1, 9);
        x.mendWords(0, 3, 2, 9);
        checks.is("points", x.points(0, 1), 10);
        checks.is("points", x.points(0, 2), 11);
        checks.is("points", x.points(0, 3), 18);
        checks.is("kind", x.kindOf(0, 3, 0), SheetVault.NUMBER);
        checks.is("kind", x.kindOf(0, 3, 1), SheetVault.CHOICE);
        checks.is("kind", x.kindOf(0, 3, 2), SheetVault.WORDS);
        checks.is("told", x.toldIn(0, 3, 0), 1);
        checks.is("no version is made", x.versions(0), 4);
    }

    /** The ends of the ranges of mends are the rules that count then. */
    private static void mendedToTheEnds(Checks checks) {
        int[] values = {-1000, 1000, -1000, 1000, 0, 0};
        int[] slacks = {0, 0, 100, 100, 0, 100};
        int[] said = {-1000, 1000, -900, 900, 0, -100};
        int[] beyond = {-999, 999, -899, 899, 1, -101};
        for (int row = 0; row < values.length; row++) {
            Vault x = Rows.withSheets(1);
            x.setNumber(0, 0, 0, 10, 500, 0);
            x.open(0, 0);
            x.say(0, 0, 0, said[row]);
            x.hand(0, 0);
            x.open(1, 0);
            x.say(1, 0, 0, beyond[row]);
            x.hand(1, 0);
            checks.is("mendNumber", x.mendNumber(0, 1, 0, values[row], slacks[row]), 1);
            checks.is("mark within the slack", x.mark(0, 0), 10);
            checks.is("mark beyond the slack", x.mark(1, 0), 0);
        }
        for (int signs = 0; signs < 32; signs++) {
            Vault x = Rows.withSheets(1);
            x.setChoice(0, 0, 0, 10, signs ^ 31);
            x.open(0, 0);
            for (int sign = 0; sign < 5; sign++) {
                if ((signs >> sign & 1) != 0) {
                    x.say(0, 0, 0, sign);
                }
            }
            checks.is("hand the contrary", x.hand(0, 0), 0);
            checks.is("mendChoice to " + signs, x.mendChoice(0, 1, 0, signs), 1);
            checks.is("mark", x.mark(0, 0), 10);
        }
        int[][] rows = {{1}, {31}, {1, 1, 1, 1, 1, 1}, {31, 31, 31, 31, 31, 31}, {1, 2, 3, 4, 5, 6}};
        for (int[] row : rows) {
            Vault x = Rows.withSheets(1);
            x.setWords(0, 0, 0, 10, 7);
            x.open(0, 0);
            Rows.sayAll(x, 0, 0, 0, row);
            checks.is("hand what is not in the rule", x.hand(0, 0), 0);
            checks.is("mendWords", x.mendWords(0, 1, 0, Rows.row(row)), 1);
            checks.is("mark", x.mark(0, 0), 10);
        }
    }
}
