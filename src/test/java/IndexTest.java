/** Promises 28 to 33: fingerprints, withPrint, likeness and pairs. */
public final class IndexTest {
    public static void main(String[] args) {
        Checks checks = new Checks();
        fingerprints(checks);
        rulesHaveNoPrints(checks);
        manyTasks(checks);
        withPrint(checks);
        likeness(checks);
        pairs(checks);
        aLikenessOf59(checks);
        fullAnswers(checks);
        markAboveZero(checks);
        aMarkOfOne(checks);
        closedMarksRule(checks);
        whatIsNotThere(checks);
        Rows.end(checks);
    }

    private static Vault withRule(int words) {
        Vault x = Rows.withSheets(1);
        x.setWords(0, 0, 0, 10, words);
        for (int group = 1; group < 4; group++) {
            x.adopt(group, 0, 1);
        }
        return x;
    }

    private static void fingerprints(Checks checks) {
        Vault x = withRule(1);
        checks.is("of no answer", x.fingerprints(0, 0), 0);
        x.open(0, 0);
        Rows.sayAll(x, 0, 0, 0, 1, 2, 3, 4);
        checks.is("of an open answer", x.fingerprints(0, 0), 0);
        x.hand(0, 0);
        checks.is("of an answer handed in", x.fingerprints(0, 0), 2);
        Rows.handWords(x, 1, 0, 0, 1, 2);
        checks.is("of two words", x.fingerprints(1, 0), 0);
        Rows.handWords(x, 2, 0, 0, 1, 2, 3);
        checks.is("of three words", x.fingerprints(2, 0), 1);
        Rows.handWords(x, 3, 0, 0, 1, 1, 1, 1, 1);
        checks.is("each number once", x.fingerprints(3, 0), 1);
        Rows.handWords(x, 4, 0, 0, 1, 2, 1, 2, 1, 2);
        checks.is("two numbers again and again", x.fingerprints(4, 0), 2);
        Rows.handWords(x, 5, 0, 0, 1, 2, 3, 4, 5, 6, 7, 8, 9, 10, 11, 12);
        checks.is("of 12 words", x.fingerprints(5, 0), 10);
    }

    private static void rulesHaveNoPrints(Checks checks) {
        Vault x = withRule(Rows.row(1, 2, 3, 4));
        Rows.handWords(x, 0, 0, 0, 1, 2, 3, 4, 1, 2, 3);
        checks.is("without those of the rule", x.fingerprints(0, 0), 2);
        checks.is("one of the rule", x.withPrint(0, Rows.print(2, 3, 4)), 0);
        checks.is("one of its own", x.withPrint(0, Rows.print(3, 4, 1)), 1);
        checks.is("mend that leaves the due mark", x.mendWords(0, 1, 0, Rows.row(4, 1, 2, 3)), 0);
        checks.is("one of the new rule", x.withPrint(0, Rows.print(4, 1, 2)), 0);
        checks.is("one of the old rule", x.withPrint(0, Rows.print(2, 3, 4)), 1);
        checks.is("how many then", x.fingerprints(0, 0), 2);
        checks.is("mend to two words", x.mendWords(0, 1, 0, Rows.row(1, 2)), 0);
        checks.is("a rule of two words has none", x.fingerprints(0, 0), 4);
        checks.is("mend to six words", x.mendWords(0, 1, 0, Rows.row(1, 2, 3, 4, 1, 2)), 0);
        checks.is("a rule of six words", x.fingerprints(0, 0), 0);
    }

    private static void manyTasks(Checks checks) {
        Vault x = Rows.withSheets(1);
        x.setWords(0, 0, 0, 10, Rows.row(1, 2, 3));
        x.setWords(0, 0, 4, 10, Rows.row(5, 6, 7));
        x.setNumber(0, 0, 1, 10, 0, 0);
        x.setChoice(0, 0, 2, 10, 0);
        x.open(0, 0);
        Rows.sayAll(x, 0, 0, 0, 5, 6, 7);
        Rows.sayAll(x, 0, 0, 4, 5, 6, 7, 8);
        x.hand(0, 0);
        checks.is("of two tasks", x.fingerprints(0, 0), 2);
        checks.is("the rule of the one task is not that of the other", x.withPrint(0, Rows.print(5, 6, 7)), 1);
        x.open(1, 0);
        Rows.sayAll(x, 1, 0, 0, 9, 9, 9);
        Rows.sayAll(x, 1, 0, 4, 9, 9, 9);
        x.hand(1, 0);
        checks.is("each number once in an answer", x.fingerprints(1, 0), 1);
        x.open(2, 0);
        Rows.sayAll(x, 2, 0, 0, 9, 9);
        Rows.sayAll(x, 2, 0, 4, 9, 9);
        x.hand(2, 0);
        checks.is("words of two tasks do not follow one another", x.fingerprints(2, 0), 0);
    }

    private static void withPrint(Checks checks) {
        Vault x = withRule(1);
        int[] pupils = {0, 5, 11};
        for (int pupil : pupils) {
            Rows.handWords(x, pupil, 0, 0, 1, 31, 31, 31);
        }
        Rows.handWords(x, 7, 0, 0, 1, 2, 3);
        int all = 1 | 1 << 5 | 1 << 11;
        checks.is("the most print", x.withPrint(0, Rows.print(31, 31, 31)), all);
        checks.is("another print of them", x.withPrint(0, Rows.print(1, 31, 31)), all);
        checks.is("the print of one", x.withPrint(0, Rows.print(1, 2, 3)), 1 << 7);
        checks.is("the words the other way round", x.withPrint(0, Rows.print(3, 2, 1)), 0);
        int[] others = {0, -1, 32768, Rows.MOST, Rows.LEAST};
        for (int print : others) {
            checks.is("any number", x.withPrint(0, print), 0);
        }
    }

    private static void likeness(Checks checks) {
        Vault x = withRule(1);
        Rows.handWords(x, 0, 0, 0, 1, 2, 3, 4, 5);
        Rows.handWords(x, 1, 0, 0, 1, 2, 3, 4, 6, 7);
        Rows.handWords(x, 2, 0, 0, 1, 2);
        Rows.handWords(x, 3, 0, 0, 1, 8, 9);
        x.open(4, 0);
        Rows.sayAll(x, 4, 0, 0, 1, 2, 3, 4, 5);
        checks.is("by the lesser number, rounded down", x.likeness(0, 0, 1), 66);
        checks.is("the other way round", x.likeness(0, 1, 0), 66);
        checks.is("the same pupil", x.likeness(0, 0, 0), 0);
        checks.is("one without fingerprints", x.likeness(0, 0, 2), 0);
        checks.is("none in common", x.likeness(0, 0, 3), 0);
        checks.is("an open answer", x.likeness(0, 0, 4), 0);
        checks.is("an open answer first", x.likeness(0, 4, 0), 0);
        checks.is("no answer", x.likeness(0, 0, 5), 0);
        checks.is("no answer first", x.likeness(0, 5, 0), 0);
        x.hand(4, 0);
        checks.is("all the same", x.likeness(0, 0, 4), 100);
        checks.is("likeness in another sheet", x.addSheet(), 1);
        checks.is("likeness in another sheet", x.likeness(1, 0, 4), 0);
    }

    private static void pairs(Checks checks) {
        Vault x = withRule(1);
        checks.is("pairs of none", x.pairs(0), 0);
        checks.is("pairs anew of none", x.pairsAnew(0), 0);
        checks.index(x, "pairAt of none", v -> v.pairAt(0, 0));
        Rows.handWords(x, 11, 0, 0, 1, 2, 3, 4);
        Rows.handWords(x, 2, 0, 0, 1, 2, 3, 4);
        Rows.handWords(x, 7, 0, 0, 1, 2, 3, 4);
        int[] three = {207, 211, 711};
        samePairs(checks, x, three);
        Rows.handWords(x, 0, 0, 0, 1, 5, 6, 7, 8, 9, 10);
        Rows.handWords(x, 1, 0, 0, 1, 5, 6, 7, 8, 11, 12);
        int[] withSixty = {1, 207, 211, 711};
        samePairs(checks, x, withSixty);
        checks.is("a likeness of 60", x.likeness(0, 0, 1), 60);
        Rows.handWords(x, 4, 0, 0, 1, 13, 14);
        Rows.handWords(x, 5, 0, 0, 1, 13, 14);
        checks.is("one print alone in common", x.likeness(0, 4, 5), 100);
        samePairs(checks, x, withSixty);
        Rows.handWords(x, 6, 0, 0, 1, 15, 16, 17, 18, 19, 20, 21, 22);
        Rows.handWords(x, 8, 0, 0, 1, 15, 16, 17, 18, 19, 23, 24, 25);
        checks.is("a likeness of 57", x.likeness(0, 6, 8), 57);
        samePairs(checks, x, withSixty);
        checks.index(x, "pairAt past the last", v -> v.pairAt(0, 4));
        checks.index(x, "pairAt below 0", v -> v.pairAt(0, -1));
        checks.index(x, "pairAt the most", v -> v.pairAt(0, Rows.MOST));
        checks.index(x, "pairAt the least", v -> v.pairAt(0, Rows.LEAST));
        x.addSheet();
        checks.is("pairs of another sheet", x.pairs(1), 0);
    }

    private static void samePairs(Checks checks, Vault x, int[] due) {
        checks.is("pairs", x.pairs(0), due.length);
        checks.is("pairs anew", x.pairsAnew(0), due.length);
        for (int place = 0; place < due.length && place < x.pairs(0); place++) {
            checks.is("pairAt " + place, x.pairAt(0, place), due[place]);
        }
    }

    private static Vault withTasks(int tasks) {
        Vault x = Rows.withSheets(1);
        x.setQuota(0, 1000);
        for (int task = 0; task < tasks; task++) {
            x.setWords(0, 0, task, 10, 1);
        }
        return x;
    }

    private static void aLikenessOf59(Checks checks) {
        Vault x = withTasks(3);
        x.open(0, 0);
        Rows.sayAll(x, 0, 0, 0, 1, 2, 3, 4, 5, 6, 7, 8, 9, 10, 11, 12);
        Rows.sayAll(x, 0, 0, 1, 13, 14, 15, 16, 17, 18, 19, 20, 21, 22, 23, 24);
        Rows.sayAll(x, 0, 0, 2, 25, 26, 27, 28);
        x.hand(0, 0);
        x.open(1, 0);
        Rows.sayAll(x, 1, 0, 0, 1, 2, 3, 4, 5, 6, 7, 8, 9, 10, 11, 12);
        Rows.sayAll(x, 1, 0, 1, 13, 14, 15, 16, 17, 24, 23, 22, 21, 20, 19, 18);
        Rows.sayAll(x, 1, 0, 2, 31, 30, 29, 28);
        x.hand(1, 0);
        // 10 of the first task and 3 of the second, 13 of 22, are in both.
        checks.is("fingerprints", x.fingerprints(0, 0), 22);
        checks.is("fingerprints", x.fingerprints(1, 0), 22);
        checks.is("likeness", x.likeness(0, 0, 1), 59);
        checks.is("pairs", x.pairs(0), 0);
        checks.is("pairs anew", x.pairsAnew(0), 0);
    }

    private static void fullAnswers(Checks checks) {
        Vault x = withTasks(5);
        for (int pupil = 0; pupil < 2; pupil++) {
            x.open(pupil, 0);
            for (int task = 0; task < 5; task++) {
                for (int place = 0; place < 12; place++) {
                    x.say(pupil, 0, task, 1 + (place * (task + 1) + task) % 31);
                }
            }
            checks.is("hand", x.hand(pupil, 0), 20);
            checks.is("fingerprints of all words", x.fingerprints(pupil, 0), 50);
        }
        checks.is("likeness", x.likeness(0, 0, 1), 100);
        checks.is("pairs", x.pairs(0), 1);
        checks.is("pairs anew", x.pairsAnew(0), 1);
        checks.is("the last print", x.withPrint(0, Rows.print(19, 24, 29)), 3);
        checks.is("the highest print", x.withPrint(0, Rows.print(30, 4, 9)), 3);
    }

    private static void aMarkOfOne(Checks checks) {
        Vault x = Rows.withSheets(1);
        x.setWords(0, 0, 0, 1, 1);
        checks.is("hand", Rows.handWords(x, 0, 0, 0, 1, 2, 3, 4), 1);
        checks.is("hand", Rows.handWords(x, 1, 0, 0, 1, 2, 3, 4), 1);
        checks.is("a mark of 1", x.fingerprints(0, 0), 2);
        checks.is("pairs", x.pairs(0), 1);
        checks.is("pairs anew", x.pairsAnew(0), 1);
    }

    private static void markAboveZero(Checks checks) {
        Vault x = withRule(9);
        Rows.handWords(x, 0, 0, 0, 1, 2, 3, 4);
        Rows.handWords(x, 1, 0, 0, 1, 2, 3, 4);
        checks.is("a mark of 0", x.fingerprints(0, 0), 0);
        checks.is("likeness with a mark of 0", x.likeness(0, 0, 1), 0);
        checks.is("pairs with a mark of 0", x.pairs(0), 0);
        checks.is("pairs anew with a mark of 0", x.pairsAnew(0), 0);
        checks.is("mend", x.mendWords(0, 1, 0, 4), 2);
        checks.is("a mark above 0", x.fingerprints(0, 0), 2);
        checks.is("pairs", x.pairs(0), 1);
        checks.is("pairs anew", x.pairsAnew(0), 1);
        checks.is("mend back", x.mendWords(0, 1, 0, 9), 2);
        checks.is("a mark of 0 again", x.fingerprints(0, 0), 0);
        checks.is("pairs", x.pairs(0), 0);
        checks.is("with print", x.withPrint(0, Rows.print(1, 2, 3)), 0);
    }

    private static void closedMarksRule(Checks checks) {
        Vault x = withRule(1);
        Rows.handWords(x, 0, 0, 0, 1, 2, 3, 4);
        Rows.handWords(x, 3, 0, 0, 1, 2, 3, 4);
        x.close(0, 0);
        checks.is("mend", x.mendWords(0, 1, 0, Rows.row(9)), 2);
        checks.is("the closed mark keeps it in the index", x.fingerprints(0, 0), 2);
        checks.is("the other one is out", x.fingerprints(3, 0), 0);
        checks.is("with print", x.withPrint(0, Rows.print(1, 2, 3)), 1);
        checks.is("mend to a rule with a print", x.mendWords(0, 1, 0, Rows.row(1, 2, 3)), 2);
        checks.is("closed, but by the rule as it is now", x.fingerprints(0, 0), 1);
        checks.is("pairs", x.pairs(0), 0);
        checks.is("pairs anew", x.pairsAnew(0), 0);

        Vault y = withRule(9);
        Rows.handWords(y, 0, 0, 0, 1, 2, 3, 4);
        y.close(0, 0);
        checks.is("mend", y.mendWords(0, 1, 0, 1), 1);
        checks.is("the closed mark of 0 keeps it out", y.fingerprints(0, 0), 0);
    }

    private static void whatIsNotThere(Checks checks) {
        Vault x = Rows.withSheets(1);
        int[] pupils = {-1, 12, Rows.MOST, Rows.LEAST};
        for (int pupil : pupils) {
            checks.index(x, "fingerprints", v -> v.fingerprints(pupil, 0));
            checks.index(x, "likeness", v -> v.likeness(0, pupil, 0));
            checks.index(x, "likeness", v -> v.likeness(0, 0, pupil));
            checks.index(x, "likeness", v -> v.likeness(0, pupil, pupil));
        }
        int[] sheets = {-1, 1, 4, Rows.MOST, Rows.LEAST};
        for (int sheet : sheets) {
            checks.index(x, "fingerprints", v -> v.fingerprints(0, sheet));
            checks.index(x, "withPrint", v -> v.withPrint(sheet, 0));
            checks.index(x, "likeness", v -> v.likeness(sheet, 0, 0));
            checks.index(x, "pairs", v -> v.pairs(sheet));
            checks.index(x, "pairAt", v -> v.pairAt(sheet, 0));
            checks.index(x, "pairsAnew", v -> v.pairsAnew(sheet));
        }
    }
}
