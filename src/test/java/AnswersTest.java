/** Promises 19 to 27: answers, marks and what is told. */
public final class AnswersTest {
    public static void main(String[] args) {
        Checks checks = new Checks();
        open(checks);
        sayNumber(checks);
        sayChoice(checks);
        sayWords(checks);
        wrongSays(checks);
        quotaOfSays(checks);
        hand(checks);
        close(checks);
        whatIsNotThere(checks);
        choiceMarks(checks);
        wordMarks(checks);
        average(checks);
        Rows.end(checks);
    }

    private static void open(Checks checks) {
        Vault x = Rows.withSheets(2);
        checks.is("answer ahead of open", x.answer(0, 0), SheetVault.NO_ANSWER);
        checks.is("due ahead of open", x.due(0, 0), SheetVault.NONE);
        checks.is("mark ahead of open", x.mark(0, 0), SheetVault.NONE);
        checks.is("told ahead of open", x.told(0, 0), 0);
        x.setNumber(0, 0, 0, 5, 1, 0);
        checks.is("open the head of the class", x.open(2, 0), 1);
        checks.is("open the head of another class", x.open(3, 0), 0);
        checks.is("answer when opened", x.answer(2, 0), SheetVault.OPEN);
        checks.is("answer in the other sheet", x.answer(2, 1), SheetVault.NO_ANSWER);
        checks.is("due when opened", x.due(2, 0), 0);
        checks.is("mark when opened", x.mark(2, 0), SheetVault.NONE);
        checks.state(x, "open again", v -> v.open(2, 0));
        checks.is("open the other sheet", x.open(2, 1), 0);
        x.hand(2, 0);
        checks.state(x, "open what was handed in", v -> v.open(2, 0));
        x.close(0, 0);
        checks.state(x, "open what is closed", v -> v.open(1, 0));
        checks.is("the other sheet is not closed", x.open(1, 1), 0);
        checks.is("the other class is not closed", x.open(4, 0), 0);

        Vault y = Rows.withSheets(1);
        y.setNumber(0, 0, 0, 5, 1, 0);
        y.open(0, 0);
        y.setChoice(0, 0, 0, 9, 1);
        checks.is("open the new head", y.open(1, 0), 2);
        y.say(0, 0, 0, 1);
        checks.is("the first one is tied to the version it saw", y.due(0, 0), 5);
    }

    private static void sayNumber(Checks checks) {
        Vault x = Rows.withSheets(1);
        x.setNumber(0, 0, 4, 5, 0, 3);
        x.open(0, 0);
        checks.is("due with nothing said", x.due(0, 0), 0);
        checks.is("say", x.say(0, 0, 4, 4), 1);
        checks.is("due", x.due(0, 0), 0);
        checks.is("say again", x.say(0, 0, 4, 3), 1);
        checks.is("due at the slack", x.due(0, 0), 5);
        checks.is("say below", x.say(0, 0, 4, -3), 1);
        checks.is("due at the slack below", x.due(0, 0), 5);
        checks.is("say below", x.say(0, 0, 4, -4), 1);
        checks.is("due past the slack below", x.due(0, 0), 0);
        checks.is("say the least", x.say(0, 0, 4, -1000), 1);
        checks.is("say the most", x.say(0, 0, 4, 1000), 1);
        checks.is("used", x.used(0), 3);
        checks.is("say 0", x.say(0, 0, 4, 0), 1);
        checks.is("hand", x.hand(0, 0), 5);
    }

    private static void sayChoice(Checks checks) {
        Vault x = Rows.withSheets(1);
        x.setChoice(0, 0, 0, 5, 0b10001);
        x.setChoice(0, 0, 1, 4, 0);
        x.open(0, 0);
        checks.is("say a sign", x.say(0, 0, 0, 4), 1);
        checks.is("say another sign", x.say(0, 0, 0, 0), 1);
        checks.is("due of both", x.due(0, 0), 9);
        checks.is("say it again", x.say(0, 0, 0, 4), 1);
        checks.is("due of one", x.due(0, 0), 6);
        checks.is("say the last one again", x.say(0, 0, 0, 0), 0);
        checks.is("due of none", x.due(0, 0), 4);
        checks.is("used", x.used(0), 2);
        checks.is("say for the other task", x.say(0, 0, 1, 2), 1);
        checks.is("due of what is wrong", x.due(0, 0), 0);
        checks.is("say both", x.say(0, 0, 0, 2), 2);
        checks.is("used", x.used(0), 4);
        checks.is("used anew", x.usedAnew(0), 4);
    }

    private static void sayWords(Checks checks) {
        Vault x = Rows.withSheets(1);
        x.setWords(0, 0, 0, 10, Rows.row(31, 1));
        x.setNumber(0, 0, 1, 5, 0, 0);
        x.open(0, 0);
        for (int words = 1; words <= 12; words++) {
            checks.is("say a word", x.say(0, 0, 0, words == 12 ? 1 : 31), words);
        }
        checks.state(x, "say the 13th word", v -> v.say(0, 0, 0, 1));
        checks.argument(x, "say the 13th word, out of range", v -> v.say(0, 0, 0, 32));
        checks.is("the last word counts", x.due(0, 0), 10);
        checks.is("say for another task", x.say(0, 0, 1, 0), 13);
        checks.is("used", x.used(0), 17);
    }

    private static void wrongSays(Checks checks) {
        Vault x = Rows.withSheets(1);
        x.setNumber(0, 0, 0, 5, 1, 0);
        x.setChoice(0, 0, 1, 5, 1);
        x.setWords(0, 0, 2, 5, 1);
        x.setChoice(0, 0, 3, 5, 1);
        x.drop(0, 0, 3);
        checks.state(x, "say without answer", v -> v.say(0, 0, 0, 1));
        checks.state(x, "say without answer, out of range", v -> v.say(0, 0, 0, 9999));
        x.open(0, 0);
        int[] pupils = {-1, 12, Rows.MOST, Rows.LEAST};
        for (int pupil : pupils) {
            checks.index(x, "say pupil", v -> v.say(pupil, 0, 0, 9999));
        }
        int[] sheets = {-1, 1, 4};
        for (int sheet : sheets) {
            checks.index(x, "say sheet", v -> v.say(0, sheet, 0, 9999));
        }
        int[] tasks = {-1, 5};
        for (int task : tasks) {
            checks.index(x, "say task", v -> v.say(0, 0, task, 9999));
            checks.index(x, "say task without answer", v -> v.say(1, 0, task, 1));
        }
        int[] numbers = {-1001, 1001, Rows.MOST, Rows.LEAST};
        for (int said : numbers) {
            checks.argument(x, "say a number", v -> v.say(0, 0, 0, said));
            checks.state(x, "say a number for a dropped task", v -> v.say(0, 0, 3, said));
            checks.state(x, "say a number for no task", v -> v.say(0, 0, 4, said));
        }
        int[] signs = {-1, 5, 31, 32, Rows.MOST, Rows.LEAST};
        for (int said : signs) {
            checks.argument(x, "say a sign", v -> v.say(0, 0, 1, said));
        }
        int[] words = {0, 32, -1, Rows.MOST, Rows.LEAST};
        for (int said : words) {
            checks.argument(x, "say a word", v -> v.say(0, 0, 2, said));
        }
        checks.state(x, "say for a dropped task", v -> v.say(0, 0, 3, 1));
        checks.state(x, "say for no task", v -> v.say(0, 0, 4, 1));
        x.hand(0, 0);
        checks.state(x, "say when handed in", v -> v.say(0, 0, 0, 1));
        checks.state(x, "say when handed in, out of range", v -> v.say(0, 0, 0, 1001));
    }

    private static void quotaOfSays(Checks checks) {
        Vault x = Rows.withSheets(1);
        x.setNumber(0, 0, 0, 5, 1, 0);
        x.setChoice(0, 0, 1, 5, 1);
        x.setWords(0, 0, 2, 5, 1);
        x.open(0, 0);
        x.open(1, 0);
        x.setQuota(0, 4);
        checks.state(x, "say a number past the quota", v -> v.say(0, 0, 0, 1));
        checks.state(x, "say a sign past the quota", v -> v.say(0, 0, 1, 1));
        checks.state(x, "say a word past the quota", v -> v.say(0, 0, 2, 1));
        checks.argument(x, "say past the quota and out of range", v -> v.say(0, 0, 2, 0));
        x.setQuota(0, 6);
        checks.is("say a number up to the quota", x.say(0, 0, 0, 1), 1);
        checks.is("say a sign up to the quota", x.say(1, 0, 1, 1), 1);
        checks.state(x, "say a word past the quota", v -> v.say(0, 0, 2, 1));
        x.setQuota(0, 0);
        checks.is("say a number again above the quota", x.say(0, 0, 0, 2), 1);
        checks.is("say another sign above the quota", x.say(1, 0, 1, 2), 1);
        checks.is("take a sign back above the quota", x.say(1, 0, 1, 2), 1);
        checks.is("take the last sign back above the quota", x.say(1, 0, 1, 1), 0);
        checks.is("used", x.used(0), 5);
        checks.state(x, "say a sign above the quota", v -> v.say(1, 0, 1, 1));
    }

    private static void hand(Checks checks) {
        Vault x = Rows.withSheets(1);
        checks.state(x, "hand without answer", v -> v.hand(0, 0));
        x.setNumber(0, 0, 0, 5, 1, 0);
        x.open(0, 0);
        x.say(0, 0, 0, 1);
        checks.is("hand", x.hand(0, 0), 5);
        checks.is("answer", x.answer(0, 0), SheetVault.HANDED);
        checks.is("mark", x.mark(0, 0), 5);
        checks.is("told", x.told(0, 0), 0);
        checks.is("used stays", x.used(0), 3);
        checks.state(x, "hand again", v -> v.hand(0, 0));
        x.open(11, 0);
        checks.is("hand an empty answer", x.hand(11, 0), 0);
        checks.is("mark of an empty answer", x.mark(11, 0), 0);
        checks.index(x, "hand pupil", v -> v.hand(-1, 0));
        checks.index(x, "hand pupil", v -> v.hand(12, 0));
        checks.index(x, "hand sheet", v -> v.hand(0, 1));
    }

    private static void close(Checks checks) {
        Vault x = Rows.withSheets(2);
        x.setWords(0, 0, 0, 5, 1);
        x.adopt(1, 0, 1);
        Rows.handWords(x, 0, 0, 0, 1);
        Rows.handWords(x, 3, 0, 0, 1);
        x.open(1, 0);
        Rows.sayAll(x, 1, 0, 0, 1, 2, 3);
        x.open(4, 0);
        checks.is("used", x.used(0), 5);
        checks.is("close", x.close(0, 0), 1);
        checks.is("what was said is forgotten", x.used(0), 2);
        checks.is("used anew", x.usedAnew(0), 2);
        checks.is("answer that was handed in", x.answer(0, 0), SheetVault.HANDED);
        checks.is("answer that was open", x.answer(1, 0), SheetVault.NO_ANSWER);
        checks.is("due of what is forgotten", x.due(1, 0), SheetVault.NONE);
        checks.is("answer of the other class", x.answer(4, 0), SheetVault.OPEN);
        checks.is("mark of what was handed in", x.mark(0, 0), 5);
        checks.state(x, "close again", v -> v.close(0, 0));
        checks.state(x, "open again", v -> v.open(1, 0));
        checks.state(x, "say when closed", v -> v.say(1, 0, 0, 1));
        checks.state(x, "hand when closed", v -> v.hand(1, 0));
        checks.is("revise when closed", x.setChoice(0, 0, 1, 1, 1), 2);
        checks.is("close for the other class", x.close(1, 0), 1);
        checks.is("close without answers", x.close(3, 0), 0);
        checks.is("close the other sheet", x.close(0, 1), 0);
        checks.index(x, "close class", v -> v.close(4, 0));
        checks.index(x, "close class", v -> v.close(-1, 0));
        checks.index(x, "close sheet", v -> v.close(0, 2));
    }

    private static void whatIsNotThere(Checks checks) {
        Vault x = Rows.withSheets(1);
        int[] pupils = {-1, 12, Rows.MOST, Rows.LEAST};
        for (int pupil : pupils) {
            checks.index(x, "open", v -> v.open(pupil, 0));
            checks.index(x, "answer", v -> v.answer(pupil, 0));
            checks.index(x, "mark", v -> v.mark(pupil, 0));
            checks.index(x, "due", v -> v.due(pupil, 0));
            checks.index(x, "told", v -> v.told(pupil, 0));
        }
        int[] sheets = {-1, 1, 4, Rows.MOST, Rows.LEAST};
        for (int sheet : sheets) {
            checks.index(x, "open", v -> v.open(0, sheet));
            checks.index(x, "answer", v -> v.answer(0, sheet));
            checks.index(x, "mark", v -> v.mark(0, sheet));
            checks.index(x, "due", v -> v.due(0, sheet));
            checks.index(x, "told", v -> v.told(0, sheet));
            checks.index(x, "average", v -> v.average(0, sheet));
        }
        checks.index(x, "average", v -> v.average(-1, 0));
        checks.index(x, "average", v -> v.average(4, 0));
    }

    private static void choiceMarks(Checks checks) {
        Vault x = Rows.withSheets(1);
        x.setChoice(0, 0, 0, 10, 0b00111);
        x.open(0, 0);
        int[] signs = {0, 1, 2, 3, 4, 0, 1};
        int[] dues = {3, 6, 10, 6, 3, 0, 0};
        for (int place = 0; place < signs.length; place++) {
            x.say(0, 0, 0, signs[place]);
            checks.is("due with signs", x.due(0, 0), dues[place]);
        }
        checks.is("hand", x.hand(0, 0), 0);
    }

    private static void wordMarks(Checks checks) {
        Vault x = Rows.withSheets(1);
        x.setWords(0, 0, 0, 10, Rows.row(1, 2, 3, 1, 2, 3));
        checks.is("all words", Rows.handWords(x, 0, 0, 0, 9, 1, 2, 9, 3, 1, 2, 3), 10);
        checks.is("in another order", Rows.handWords(x, 1, 0, 0, 3, 2, 1, 3, 2, 1), 5);
        checks.is("no words", Rows.handWords(x, 2, 0, 0), 0);
        for (int pupil = 0; pupil < 3; pupil++) {
            checks.is("due is the mark", x.due(pupil, 0), x.mark(pupil, 0));
        }
        x.adopt(1, 0, 1);
        checks.is("one word more than once", Rows.handWords(x, 3, 0, 0, 1, 1, 1, 1), 3);
        checks.is("the end alone", Rows.handWords(x, 4, 0, 0, 2, 3), 3);
        checks.is("the first is not the best", Rows.handWords(x, 5, 0, 0, 3, 1, 2, 3, 1), 6);
        for (int pupil = 3; pupil < 6; pupil++) {
            checks.is("due is the mark", x.due(pupil, 0), x.mark(pupil, 0));
        }
    }

    private static void average(Checks checks) {
        Vault x = Rows.withSheets(1);
        x.setNumber(1, 0, 0, 10, 0, 0);
        x.setNumber(1, 0, 1, 1, 0, 0);
        checks.is("average of none", x.average(1, 0), SheetVault.NONE);
        x.open(3, 0);
        checks.is("average with an open one", x.average(1, 0), SheetVault.NONE);
        x.say(3, 0, 0, 0);
        x.hand(3, 0);
        checks.is("average of one", x.average(1, 0), 1000);
        x.open(4, 0);
        x.hand(4, 0);
        checks.is("average of two", x.average(1, 0), 500);
        x.open(5, 0);
        x.say(5, 0, 1, 0);
        checks.is("average with an open one", x.average(1, 0), 500);
        x.hand(5, 0);
        checks.is("average, rounded down", x.average(1, 0), 366);
        checks.is("average of another class", x.average(0, 0), SheetVault.NONE);
        x.open(0, 0);
        x.hand(0, 0);
        checks.is("average of marks of 0", x.average(0, 0), 0);
    }
}
