/** The terms: answers, marks, what is told, and what is closed. */
public final class TermsAnswersTest {
    private static final int NONE = SheetVault.NONE;

    public static void main(String[] args) {
        Checks checks = new Checks();
        fromThenOn(checks);
        tiedToTheHead(checks);
        saidUntilHanded(checks);
        atMostOneAnswer(checks);
        handedWithTheDueMark(checks);
        mendedMarks(checks);
        mendsOfOpenAnswers(checks);
        closedMarksStay(checks);
        toldForEachMend(checks);
        closedForOneClass(checks);
        closedOnceAndForAll(checks);
        openAnswersAreForgotten(checks);
        nothingAnyMore(checks);
        whatAClosedClassMayDo(checks);
        closeCounts(checks);
        averages(checks);
        averagesOfClosedMarks(checks);
        Rows.end(checks);
    }

    private static void there(Checks checks, Vault x, int pupil, int answer, int mark, int due, int told) {
        checks.is("answer of " + pupil, x.answer(pupil, 0), answer);
        checks.is("mark of " + pupil, x.mark(pupil, 0), mark);
        checks.is("due of " + pupil, x.due(pupil, 0), due);
        checks.is("told to " + pupil, x.told(pupil, 0), told);
    }

    private static Vault withNumber() {
        Vault x = Rows.withSheets(2);
        x.setNumber(0, 0, 0, 5, 1, 0);
        for (int group = 1; group < 4; group++) {
            x.adopt(group, 0, 1);
        }
        return x;
    }

    private static void handNumber(Vault x, int pupil, int said) {
        x.open(pupil, 0);
        x.say(pupil, 0, 0, said);
        x.hand(pupil, 0);
    }

    /** "A pupil opens a sheet: from then on there is an answer". */
    private static void fromThenOn(Checks checks) {
        Vault x = withNumber();
        for (int pupil = 0; pupil < 12; pupil++) {
            there(checks, x, pupil, SheetVault.NO_ANSWER, NONE, NONE, 0);
            checks.is("open", x.open(pupil, 0), 1);
            there(checks, x, pupil, SheetVault.OPEN, NONE, 0, 0);
            checks.is("answer to the other sheet", x.answer(pupil, 1), SheetVault.NO_ANSWER);
        }
        checks.is("an empty answer takes nothing", x.used(3), 0);
    }

    /** "which is tied to the head that the class of the pupil has then". */
    private static void tiedToTheHead(Checks checks) {
        Vault x = Rows.withSheets(1);
        checks.is("open the version 0", x.open(0, 0), 0);
        x.setNumber(0, 0, 0, 5, 1, 0);
        checks.is("open the version 1", x.open(1, 0), 1);
        checks.is("the head of another class is the version 0 yet", x.open(3, 0), 0);
        x.setNumber(0, 0, 0, 9, 1, 0);
        checks.is("open the version 2", x.open(2, 0), 2);
        x.adopt(0, 0, 0);
        checks.state(x, "the version 0 has no task to say for", v -> v.say(0, 0, 0, 1));
        x.say(1, 0, 0, 1);
        x.say(2, 0, 0, 1);
        checks.is("due in the version 0", x.due(0, 0), 0);
        checks.is("due in the version 1", x.due(1, 0), 5);
        checks.is("due in the version 2", x.due(2, 0), 9);
        checks.state(x, "fold of the version 2", v -> v.fold(0, 2));
        checks.state(x, "fold of the version 1", v -> v.fold(0, 1));
        checks.is("hand in the version 0", x.hand(0, 0), 0);
        checks.is("hand in the version 1", x.hand(1, 0), 5);
        checks.is("hand in the version 2", x.hand(2, 0), 9);
    }

    /** "What is said goes into it, until it is handed in." */
    private static void saidUntilHanded(Checks checks) {
        Vault x = Rows.withSheets(1);
        x.setNumber(0, 0, 0, 5, 1, 0);
        x.setChoice(0, 0, 1, 5, 0b00010);
        x.setWords(0, 0, 2, 5, 1);
        for (int task = 0; task < 3; task++) {
            int its = task;
            checks.state(x, "say ahead of open", v -> v.say(0, 0, its, 1));
        }
        x.open(0, 0);
        for (int task = 0; task < 3; task++) {
            checks.is("say", x.say(0, 0, task, 1), task + 1);
            checks.is("due", x.due(0, 0), 5 * (task + 1));
        }
        x.hand(0, 0);
        for (int task = 0; task < 3; task++) {
            int its = task;
            checks.state(x, "say when handed in", v -> v.say(0, 0, its, 2));
        }
        checks.is("due", x.due(0, 0), 15);
        checks.is("used", x.used(0), 4 + 3);
    }

    /** "There is at most one answer of a pupil to a sheet." */
    private static void atMostOneAnswer(Checks checks) {
        Vault x = withNumber();
        x.open(0, 0);
        checks.state(x, "open again", v -> v.open(0, 0));
        x.say(0, 0, 0, 1);
        checks.state(x, "open again when something was said", v -> v.open(0, 0));
        x.setNumber(0, 0, 0, 7, 1, 0);
        checks.state(x, "open again when there is a new head", v -> v.open(0, 0));
        x.hand(0, 0);
        checks.state(x, "open again when it was handed in", v -> v.open(0, 0));
        x.close(0, 0);
        checks.state(x, "open again when it is closed", v -> v.open(0, 0));
        checks.is("the mark of the one answer", x.mark(0, 0), 5);
        checks.is("another pupil", x.open(3, 0), 1);
        checks.is("the other sheet", x.open(0, 1), 0);
    }

    /** "When it is handed in it gets its due mark as its mark." */
    private static void handedWithTheDueMark(Checks checks) {
        Vault x = withNumber();
        checks.state(x, "hand without answer", v -> v.hand(0, 0));
        x.open(0, 0);
        x.say(0, 0, 0, 1);
        there(checks, x, 0, SheetVault.OPEN, NONE, 5, 0);
        checks.is("hand", x.hand(0, 0), 5);
        there(checks, x, 0, SheetVault.HANDED, 5, 5, 0);
        checks.state(x, "hand again", v -> v.hand(0, 0));
        x.open(1, 0);
        checks.is("hand an empty answer", x.hand(1, 0), 0);
        there(checks, x, 1, SheetVault.HANDED, 0, 0, 0);
        checks.state(x, "hand an empty answer again", v -> v.hand(1, 0));
        checks.state(x, "hand in the other sheet", v -> v.hand(0, 1));
    }

    /** "each answer that was handed in whose due mark changes by that gets this as its mark". */
    private static void mendedMarks(Checks checks) {
        Vault x = withNumber();
        for (int pupil = 0; pupil < 12; pupil++) {
            handNumber(x, pupil, pupil);
        }
        for (int value = 0; value < 12; value++) {
            checks.is("mend for one and against one", x.mendNumber(0, 1, 0, value, 0), 2);
            for (int pupil = 0; pupil < 12; pupil++) {
                int due = pupil == value ? 5 : 0;
                checks.is("mark of " + pupil, x.mark(pupil, 0), due);
            }
        }
        checks.is("mend for all", x.mendNumber(0, 1, 0, 0, 100), 11);
        checks.is("mend for none", x.mendNumber(0, 1, 0, 50, 50), 0);
        checks.is("mend of all", x.mendNumber(0, 1, 0, 1000, 0), 12);
        for (int pupil = 0; pupil < 12; pupil++) {
            there(checks, x, pupil, SheetVault.HANDED, 0, 0, 0);
        }
    }

    private static void mendsOfOpenAnswers(Checks checks) {
        Vault x = withNumber();
        checks.is("mend without answers", x.mendNumber(0, 1, 0, 2, 0), 0);
        x.open(0, 0);
        x.say(0, 0, 0, 1);
        checks.is("mend with an open answer", x.mendNumber(0, 1, 0, 1, 0), 0);
        there(checks, x, 0, SheetVault.OPEN, NONE, 5, 0);
        checks.is("mend with an open answer", x.mendNumber(0, 1, 0, 2, 0), 0);
        there(checks, x, 0, SheetVault.OPEN, NONE, 0, 0);
        checks.is("hand", x.hand(0, 0), 0);
        checks.is("mend when it was handed in", x.mendNumber(0, 1, 0, 1, 0), 1);
        there(checks, x, 0, SheetVault.HANDED, 5, 5, 0);
    }

    /** "if it is closed, the mark stays, and the mend is told to the pupil". */
    private static void closedMarksStay(Checks checks) {
        Vault x = withNumber();
        handNumber(x, 0, 1);
        handNumber(x, 1, 2);
        x.close(0, 0);
        checks.is("mend", x.mendNumber(0, 1, 0, 2, 0), 2);
        there(checks, x, 0, SheetVault.HANDED, 5, 0, 1);
        there(checks, x, 1, SheetVault.HANDED, 0, 5, 1);
        checks.is("mend of one", x.mendNumber(0, 1, 0, 3, 0), 1);
        there(checks, x, 0, SheetVault.HANDED, 5, 0, 1);
        there(checks, x, 1, SheetVault.HANDED, 0, 0, 2);
        there(checks, x, 2, SheetVault.NO_ANSWER, NONE, NONE, 0);
    }

    private static void toldForEachMend(Checks checks) {
        Vault x = withNumber();
        handNumber(x, 0, 1);
        x.mendNumber(0, 1, 0, 2, 0);
        x.mendNumber(0, 1, 0, 1, 0);
        there(checks, x, 0, SheetVault.HANDED, 5, 5, 0);
        x.close(0, 0);
        checks.is("mend to the same", x.mendNumber(0, 1, 0, 1, 0), 0);
        checks.is("mend that leaves the due mark", x.mendNumber(0, 1, 0, 2, 1), 0);
        there(checks, x, 0, SheetVault.HANDED, 5, 5, 0);
        for (int mend = 1; mend <= 20; mend++) {
            checks.is("mend", x.mendNumber(0, 1, 0, 1 + mend % 2, 0), 1);
            there(checks, x, 0, SheetVault.HANDED, 5, mend % 2 == 0 ? 5 : 0, mend);
        }
        checks.is("average", x.average(0, 0), 500);
    }

    private static void closedForOneClass(Checks checks) {
        for (int closed = 0; closed < 4; closed++) {
            Vault x = withNumber();
            for (int group = 0; group < 4; group++) {
                handNumber(x, 3 * group, 1);
            }
            x.close(closed, 0);
            x.close(closed, 1);
            checks.is("mend", x.mendNumber(0, 1, 0, 2, 0), 4);
            for (int group = 0; group < 4; group++) {
                boolean its = group == closed;
                there(checks, x, 3 * group, SheetVault.HANDED, its ? 5 : 0, 0, its ? 1 : 0);
            }
        }
        Vault x = withNumber();
        handNumber(x, 0, 1);
        x.close(0, 1);
        x.mendNumber(0, 1, 0, 2, 0);
        there(checks, x, 0, SheetVault.HANDED, 0, 0, 0);
    }

    /** "A sheet is closed for a class once and for all". */
    private static void closedOnceAndForAll(Checks checks) {
        Vault x = withNumber();
        for (int each = 0; each < 4; each++) {
            int group = each;
            checks.is("close", x.close(group, 0), 0);
            checks.state(x, "close again", v -> v.close(group, 0));
        }
        for (int each = 0; each < 4; each++) {
            int group = each;
            checks.state(x, "close again later", v -> v.close(group, 0));
            checks.is("close the other sheet", x.close(group, 1), 0);
        }
        x.setNumber(0, 0, 0, 1, 1, 1);
        checks.state(x, "close again with a new head", v -> v.close(0, 0));
        checks.state(x, "open with a new head", v -> v.open(0, 0));
    }

    /** "answers that were not handed in are forgotten". */
    private static void openAnswersAreForgotten(Checks checks) {
        Vault x = CallTable.stateOf("opened-words");
        Rows.sayAll(x, 3, 0, 0, 1, 2, 3, 4);
        Rows.sayAll(x, 4, 0, 0, 1, 2, 3, 4);
        Rows.sayAll(x, 4, 1, 0, 1, 2);
        Rows.sayAll(x, 6, 0, 0, 1);
        x.hand(3, 0);
        checks.is("used ahead", x.used(1), 10);
        checks.is("close", x.close(1, 0), 1);
        checks.is("used", x.used(1), 6);
        checks.is("used anew", x.usedAnew(1), 6);
        checks.is("used by another class", x.used(2), 1);
        there(checks, x, 3, SheetVault.HANDED, 2, 2, 0);
        there(checks, x, 4, SheetVault.NO_ANSWER, NONE, NONE, 0);
        there(checks, x, 5, SheetVault.NO_ANSWER, NONE, NONE, 0);
        there(checks, x, 6, SheetVault.OPEN, NONE, 2, 0);
        checks.is("the other sheet", x.answer(4, 1), SheetVault.OPEN);
        checks.is("mend when they are forgotten", x.mendWords(0, 1, 0, 31), 1);
        there(checks, x, 4, SheetVault.NO_ANSWER, NONE, NONE, 0);
        checks.is("average", x.average(1, 0), 200);
    }

    /** "no pupil of the class can open it, say or hand in anything any more". */
    private static void nothingAnyMore(Checks checks) {
        for (int group = 0; group < 4; group++) {
            Vault x = withNumber();
            int first = 3 * group;
            x.open(first, 0);
            x.say(first, 0, 0, 1);
            handNumber(x, first + 1, 1);
            x.close(group, 0);
            for (int each = first; each < first + 3; each++) {
                int pupil = each;
                checks.state(x, "open", v -> v.open(pupil, 0));
                checks.state(x, "say", v -> v.say(pupil, 0, 0, 1));
                checks.state(x, "hand", v -> v.hand(pupil, 0));
                checks.is("open the other sheet", x.open(pupil, 1), 0);
            }
            for (int pupil = 0; pupil < 12; pupil++) {
                if (pupil < first || pupil > first + 2) {
                    checks.is("open of another class", x.open(pupil, 0), 1);
                    checks.is("say of another class", x.say(pupil, 0, 0, 1), 1);
                    checks.is("hand of another class", x.hand(pupil, 0), 5);
                }
            }
        }
    }

    /** Closing takes from a class nothing but opening, saying and handing in. */
    private static void whatAClosedClassMayDo(Checks checks) {
        Vault x = withNumber();
        for (int group = 0; group < 4; group++) {
            x.close(group, 0);
        }
        checks.is("setNumber", x.setNumber(0, 0, 0, 1, 1, 1), 2);
        checks.is("setChoice", x.setChoice(1, 0, 0, 1, 1), 3);
        checks.is("setWords", x.setWords(2, 0, 0, 1, 1), 4);
        checks.is("drop", x.drop(3, 0, 0), 5);
        checks.is("adopt", x.adopt(3, 0, 4), 5);
        checks.is("fold", x.fold(0, 5), 1);
        checks.is("mendNumber", x.mendNumber(0, 1, 0, 1, 1), 0);
        checks.is("mendChoice", x.mendChoice(0, 3, 0, 1), 0);
        checks.is("mendWords", x.mendWords(0, 4, 0, 1), 0);
    }

    /** close "Returns how many answers of its pupils were handed in". */
    private static void closeCounts(Checks checks) {
        for (int handed = 0; handed <= 3; handed++) {
            Vault x = withNumber();
            for (int pupil = 0; pupil < 12; pupil++) {
                x.open(pupil, 0);
                if (pupil < 3 || pupil >= 9 || pupil < 6 + handed && pupil >= 6) {
                    x.hand(pupil, 0);
                }
            }
            x.open(6, 1);
            x.hand(6, 1);
            checks.is("close with so many handed in", x.close(2, 0), handed);
            checks.is("close with all handed in", x.close(3, 0), 3);
            checks.is("close with none handed in", x.close(1, 0), 0);
        }
    }

    /** average "Returns the sum of the marks, times 100, divided by how many there are, rounded down". */
    private static void averages(Checks checks) {
        int[][] marks = {
            {0}, {1}, {10}, {0, 1}, {0, 0}, {10, 9}, {0, 0, 1}, {1, 1, 0}, {10, 10, 10}, {3, 4, 4}, {7, 9, 10},
        };
        int[] due = {0, 100, 1000, 50, 0, 950, 33, 66, 1000, 366, 866};
        for (int row = 0; row < marks.length; row++) {
            Vault x = Rows.withSheets(1);
            checks.is("average of none", x.average(2, 0), NONE);
            for (int place = 0; place < marks[row].length; place++) {
                int points = Math.max(1, marks[row][place]);
                x.setNumber(2, 0, 0, points, 1, 0);
                x.open(6 + place, 0);
                x.say(6 + place, 0, 0, marks[row][place] == 0 ? 0 : 1);
                if (place == 0) {
                    checks.is("average of an open answer", x.average(2, 0), NONE);
                }
                x.hand(6 + place, 0);
            }
            checks.is("average", x.average(2, 0), due[row]);
            checks.is("average of another class", x.average(1, 0), NONE);
        }
    }

    private static void averagesOfClosedMarks(Checks checks) {
        Vault x = withNumber();
        handNumber(x, 9, 1);
        handNumber(x, 10, 2);
        x.open(11, 0);
        x.close(3, 0);
        checks.is("average without what is forgotten", x.average(3, 0), 250);
        x.mendNumber(0, 1, 0, 50, 50);
        checks.is("due", x.due(10, 0), 5);
        checks.is("average of the marks that stay", x.average(3, 0), 250);
        Vault y = withNumber();
        handNumber(y, 9, 1);
        handNumber(y, 10, 2);
        y.mendNumber(0, 1, 0, 50, 50);
        checks.is("average of the mended marks", y.average(3, 0), 500);
        y.mendNumber(0, 1, 0, 50, 0);
        checks.is("average of marks of 0", y.average(3, 0), 0);
    }
}
