import java.util.Arrays;
import java.util.Set;
import java.util.TreeSet;

/** The terms: fingerprints, the index, likenesses and pairs. */
public final class TermsPrintsTest {
    public static void main(String[] args) {
        Checks checks = new Checks();
        threeWords(checks);
        numbers(checks);
        anyNumber(checks);
        wordsTasksAlone(checks);
        notThoseOfTheRule(checks);
        otherBitsOfTheRule(checks);
        theRuleOfThisTask(checks);
        theRuleAsItIsNow(checks);
        rulesOfParents(checks);
        eachNumberOnce(checks);
        pairsByNumbersThatCountOnce(checks);
        pairsOfAFullAnswer(checks);
        handedIn(checks);
        markAboveZero(checks);
        mendsThatMoveTheIndex(checks);
        closedMarks(checks);
        likenesses(checks);
        likenessOfNone(checks);
        twoInCommon(checks);
        sixty(checks);
        bothWays(checks);
        placesInOrder(checks);
        indexOfItsSheet(checks);
        Rows.end(checks);
    }

    /** One task of WORDS, whose rule is one word that any answer can have first, for all classes. */
    private static Vault withRule(int... words) {
        Vault x = Rows.withSheets(2);
        x.setWords(0, 0, 0, 10, Rows.row(words));
        for (int group = 1; group < 4; group++) {
            x.adopt(group, 0, 1);
        }
        return x;
    }

    private static void indexed(Checks checks, String what, Vault x, int pupil, int... prints) {
        checks.is("fingerprints of " + what, x.fingerprints(pupil, 0), prints.length);
        for (int print : prints) {
            checks.is("print " + print + " of " + what, x.withPrint(0, print) >> pupil & 1, 1);
        }
    }

    private static void likeAnew(Checks checks, Vault x, int pairs) {
        checks.is("pairs", x.pairs(0), pairs);
        checks.is("pairsAnew", x.pairsAnew(0), pairs);
    }

    /** "each three words that were said for it and follow one another". */
    private static void threeWords(Checks checks) {
        int[] said = {31, 1, 2, 3, 4, 5, 6, 7, 8, 9, 10, 11};
        for (int words = 0; words <= 12; words++) {
            Vault x = withRule(31);
            Rows.handWords(x, 0, 0, 0, Arrays.copyOf(said, words));
            checks.is("fingerprints of " + words + " words", x.fingerprints(0, 0), Math.max(0, words - 2));
            for (int place = 0; place < 10; place++) {
                int print = Rows.print(said[place], said[place + 1], said[place + 2]);
                checks.is("with print", x.withPrint(0, print), place + 2 < words ? 1 : 0);
            }
            checks.is("words that do not follow", x.withPrint(0, Rows.print(31, 1, 3)), 0);
            checks.is("words that do not follow", x.withPrint(0, Rows.print(1, 3, 4)), 0);
            checks.is("words that do not follow", x.withPrint(0, Rows.print(10, 11, 31)), 0);
        }
    }

    /** "1024 times the first, 32 times the second, and the third, added". */
    private static void numbers(Checks checks) {
        int[][] rows = {{1, 1, 1}, {31, 31, 31}, {31, 1, 1}, {1, 31, 1}, {1, 1, 31}, {1, 2, 3}, {16, 8, 4}, {2, 31, 1}};
        int[] prints = {1057, 32767, 31777, 2017, 1087, 1091, 16644, 3041};
        for (int row = 0; row < rows.length; row++) {
            Vault x = withRule(rows[row][0]);
            Rows.handWords(x, 11, 0, 0, rows[row]);
            Set<Integer> found = new TreeSet<>();
            Vault asked = x.again();
            for (int print = -1; print <= 32768; print++) {
                asked = asked.callsLeft() > 0 ? asked : x.again();
                int pupils = asked.withPrint(0, print);
                checks.holds("with print " + print, pupils == 0 || pupils == 1 << 11);
                if (pupils != 0) {
                    found.add(print);
                }
            }
            checks.holds("the prints are " + found, found.equals(Set.of(prints[row])));
        }
    }

    /** withPrint: "any number". */
    private static void anyNumber(Checks checks) {
        Vault x = withRule(1);
        checks.is("no answer", x.withPrint(0, 1057), 0);
        Rows.handWords(x, 0, 0, 0, 1, 1, 1);
        Rows.handWords(x, 11, 0, 0, 1, 31, 31, 31);
        checks.is("the lowest one", x.withPrint(0, 1057), 1);
        checks.is("the highest one", x.withPrint(0, 32767), 1 << 11);
        int[] others = {
            0, -1, 1, 1056, 1058, 32766, 32768, -1057, -32767, 1057 + 32768, 32767 + 32768, 1057 + 65536,
            1057 | 1 << 31, 32767 | 1 << 31, 32767 << 15, 1057 << 5, 1057 << 15, Rows.MOST, Rows.LEAST,
            Rows.MOST - 32767,
        };
        for (int print : others) {
            checks.is("with print " + print, x.withPrint(0, print), 0);
        }
        for (int pupil = 1; pupil < 11; pupil++) {
            Rows.handWords(x, pupil, 0, 0, 1, 1, 1, 1);
        }
        checks.is("eleven pupils", x.withPrint(0, 1057), (1 << 11) - 1);
    }

    /** "for each WORDS task that its version has". */
    private static void wordsTasksAlone(Checks checks) {
        Vault x = Rows.withSheets(1);
        x.setNumber(0, 0, 0, 10, 0, 100);
        x.setChoice(0, 0, 1, 10, 0b00010);
        x.setWords(0, 0, 2, 10, 1);
        x.setWords(0, 0, 4, 10, 1);
        x.open(0, 0);
        Rows.sayAll(x, 0, 0, 0, 1, 2, 3, 4);
        Rows.sayAll(x, 0, 0, 1, 1, 2, 3, 4);
        x.hand(0, 0);
        indexed(checks, "numbers and signs", x, 0);
        x.open(1, 0);
        Rows.sayAll(x, 1, 0, 2, 1, 2, 3);
        Rows.sayAll(x, 1, 0, 4, 4, 5, 6, 7);
        x.hand(1, 0);
        indexed(checks, "two tasks", x, 1, Rows.print(1, 2, 3), Rows.print(4, 5, 6), Rows.print(5, 6, 7));
        x.open(2, 0);
        Rows.sayAll(x, 2, 0, 2, 1, 2);
        Rows.sayAll(x, 2, 0, 4, 3, 4);
        x.hand(2, 0);
        indexed(checks, "two words for each of two tasks", x, 2);
        for (int task = 0; task < 5; task++) {
            Vault y = Rows.withSheets(1);
            y.setWords(0, 0, task, 10, 1);
            Rows.handWords(y, 0, 0, task, 1, 2, 3);
            indexed(checks, "the task " + task, y, 0, Rows.print(1, 2, 3));
        }
    }

    /** "but not those of three words that follow one another in the rule". */
    private static void notThoseOfTheRule(Checks checks) {
        Vault one = withRule(1);
        Rows.handWords(one, 0, 0, 0, 1, 1, 1);
        indexed(checks, "a rule of one word", one, 0, Rows.print(1, 1, 1));
        Vault two = withRule(1, 2);
        Rows.handWords(two, 0, 0, 0, 1, 2, 1, 2);
        indexed(checks, "a rule of two words", two, 0, Rows.print(1, 2, 1), Rows.print(2, 1, 2));
        Vault three = withRule(1, 2, 3);
        Rows.handWords(three, 0, 0, 0, 1, 2, 3);
        indexed(checks, "what the rule of three words has", three, 0);
        Rows.handWords(three, 1, 0, 0, 1, 2, 3, 1, 2);
        indexed(checks, "more than the rule", three, 1, Rows.print(2, 3, 1), Rows.print(3, 1, 2));
        Vault six = withRule(1, 2, 3, 4, 5, 6);
        Rows.handWords(six, 0, 0, 0, 1, 2, 3, 4, 5, 6);
        indexed(checks, "all of a rule of six words", six, 0);
        Rows.handWords(six, 1, 0, 0, 1, 2, 3, 5, 6, 1);
        indexed(checks, "some of a rule of six words", six, 1, Rows.print(2, 3, 5), Rows.print(3, 5, 6),
                Rows.print(5, 6, 1));
        Rows.handWords(six, 2, 0, 0, 4, 5, 6, 6, 5, 4);
        indexed(checks, "the last of the rule, and back", six, 2, Rows.print(5, 6, 6), Rows.print(6, 6, 5),
                Rows.print(6, 5, 4));
        Rows.handWords(six, 3, 0, 0, 1, 3, 5);
        indexed(checks, "words of the rule that do not follow there", six, 3, Rows.print(1, 3, 5));
        for (int word = 1; word <= 31; word++) {
            Vault x = withRule(1, 2, 3, 4, 5, 31);
            Rows.handWords(x, 0, 0, 0, word, 1, 2);
            indexed(checks, "a word ahead of the rule", x, 0, Rows.print(word, 1, 2));
            Rows.handWords(x, 1, 0, 0, 5, 31, word);
            indexed(checks, "a word behind the rule", x, 1, Rows.print(5, 31, word));
        }
        Vault same = withRule(31, 31, 31, 31, 31, 31);
        Rows.handWords(same, 0, 0, 0, 31, 31, 31, 31, 31, 31, 31, 31, 31, 31, 31, 31);
        indexed(checks, "one word again and again", same, 0);
    }

    /** What stands in the bits of the row, but not at the places of its words, is not in the rule. */
    private static void otherBitsOfTheRule(Checks checks) {
        int[][] rules = {{21, 11, 26, 13, 22, 9}, {27, 31, 14, 29, 7, 30}, {19, 13, 22, 11, 25}};
        for (int[] rule : rules) {
            int row = Rows.row(rule);
            for (int bit = 1; bit < 32; bit++) {
                int first = row >>> bit & 31;
                int second = row >>> bit + 5 & 31;
                int third = row >>> bit + 10 & 31;
                if (bit % 5 == 0 && bit < 30 || first * second * third == 0) {
                    continue;
                }
                Vault x = withRule(rule);
                Rows.handWords(x, 0, 0, 0, first, second, third, rule[0]);
                Rows.handWords(x, 1, 0, 0, first, second, third, rule[0]);
                indexed(checks, "the bits from " + bit, x, 0, Rows.print(first, second, third),
                        Rows.print(second, third, rule[0]));
                likeAnew(checks, x, 1);
            }
        }
    }

    /** "in the rule of this task". */
    private static void theRuleOfThisTask(Checks checks) {
        Vault x = Rows.withSheets(1);
        x.setWords(0, 0, 0, 10, Rows.row(1, 2, 3));
        x.setWords(0, 0, 1, 10, Rows.row(4, 5, 6));
        x.open(0, 0);
        Rows.sayAll(x, 0, 0, 0, 1, 2, 3);
        Rows.sayAll(x, 0, 0, 1, 4, 5, 6);
        x.hand(0, 0);
        indexed(checks, "each by its rule", x, 0);
        x.open(1, 0);
        Rows.sayAll(x, 1, 0, 0, 1, 4, 5, 6);
        Rows.sayAll(x, 1, 0, 1, 4, 1, 2, 3);
        x.hand(1, 0);
        indexed(checks, "each by the rule of the other", x, 1, Rows.print(1, 4, 5), Rows.print(4, 5, 6),
                Rows.print(4, 1, 2), Rows.print(1, 2, 3));
        x.open(2, 0);
        Rows.sayAll(x, 2, 0, 0, 1, 2, 3);
        Rows.sayAll(x, 2, 0, 1, 1, 2, 3);
        x.hand(2, 0);
        indexed(checks, "in the rule of one of two tasks", x, 2, Rows.print(1, 2, 3));
        pairsByEachRule(checks);
    }

    /** With each of five tasks as the one whose rule has the three words: then they are no pair. */
    private static void pairsByEachRule(Checks checks) {
        for (int task = 0; task < 5; task++) {
            for (int said = 0; said < 5; said++) {
                Vault x = Rows.withSheets(1);
                for (int each = 0; each < 5; each++) {
                    x.setWords(0, 0, each, 10, each == task ? Rows.row(1, 2, 3, 4) : 1);
                }
                Rows.handWords(x, 0, 0, said, 1, 2, 3, 4);
                Rows.handWords(x, 2, 0, said, 1, 2, 3, 4);
                likeAnew(checks, x, said == task ? 0 : 1);
                checks.is("likeness", x.likeness(0, 0, 2), said == task ? 0 : 100);
                checks.is("fingerprints", x.fingerprints(2, 0), said == task ? 0 : 2);
            }
        }
    }

    /** "as it is now". */
    private static void theRuleAsItIsNow(Checks checks) {
        Vault x = withRule(1);
        Rows.handWords(x, 0, 0, 0, 1, 2, 3, 4);
        Rows.handWords(x, 3, 0, 0, 1, 2, 3, 4);
        likeAnew(checks, x, 1);
        checks.is("mend to what was said", x.mendWords(0, 1, 0, Rows.row(1, 2, 3)), 0);
        indexed(checks, "one less", x, 0, Rows.print(2, 3, 4));
        checks.is("the one that is out", x.withPrint(0, Rows.print(1, 2, 3)), 0);
        checks.is("likeness", x.likeness(0, 0, 3), 100);
        likeAnew(checks, x, 0);
        checks.is("mend to all that was said", x.mendWords(0, 1, 0, Rows.row(1, 2, 3, 4)), 0);
        indexed(checks, "none", x, 0);
        checks.is("likeness", x.likeness(0, 0, 3), 0);
        likeAnew(checks, x, 0);
        x.close(0, 0);
        checks.is("mend to one word", x.mendWords(0, 1, 0, 4), 0);
        indexed(checks, "a closed class", x, 0, Rows.print(1, 2, 3), Rows.print(2, 3, 4));
        indexed(checks, "a class that is not closed", x, 3, Rows.print(1, 2, 3), Rows.print(2, 3, 4));
        likeAnew(checks, x, 1);
        checks.is("mend ahead of a hand", x.mendWords(0, 1, 0, Rows.row(9, 8, 7)), 2);
        Rows.handWords(x, 4, 0, 0, 9, 8, 7, 6);
        indexed(checks, "what is handed in after a mend", x, 4, Rows.print(8, 7, 6));
        Vault y = withRule(9, 8, 7);
        y.open(0, 0);
        Rows.sayAll(y, 0, 0, 0, 9, 8, 7, 6);
        y.mendWords(0, 1, 0, 6);
        y.hand(0, 0);
        indexed(checks, "what is said ahead of a mend", y, 0, Rows.print(9, 8, 7), Rows.print(8, 7, 6));
    }

    private static void rulesOfParents(Checks checks) {
        Vault x = withRule(1);
        x.setChoice(1, 0, 1, 1, 1);
        x.setWords(2, 0, 0, 10, 1);
        Rows.handWords(x, 0, 0, 0, 1, 2, 3);
        Rows.handWords(x, 3, 0, 0, 1, 2, 3);
        Rows.handWords(x, 6, 0, 0, 1, 2, 3);
        checks.is("all have it", x.withPrint(0, Rows.print(1, 2, 3)), 1 | 1 << 3 | 1 << 6);
        x.mendWords(0, 2, 0, Rows.row(1, 2, 3));
        checks.is("by the entry of the parent", x.withPrint(0, Rows.print(1, 2, 3)), 1 << 6);
        x.mendWords(0, 3, 0, Rows.row(1, 2, 3));
        checks.is("by an entry of its own", x.withPrint(0, Rows.print(1, 2, 3)), 0);
        x.mendWords(0, 1, 0, 1);
        checks.is("by the entry of the parent again", x.withPrint(0, Rows.print(1, 2, 3)), 1 | 1 << 3);
        oneLessInOneVersion(checks);
    }

    /** Of the fingerprints that both have, one goes out in one of two versions: the lowest, a middle or the highest. */
    private static void oneLessInOneVersion(Checks checks) {
        int[][] rules = {{1, 2, 3}, {2, 3, 4}, {3, 4, 5}};
        for (int[] rule : rules) {
            Vault x = withRule(1);
            x.setWords(2, 0, 0, 10, 1);
            Rows.handWords(x, 0, 0, 0, 1, 2, 3, 4, 5);
            Rows.handWords(x, 6, 0, 0, 1, 2, 3, 4, 5);
            checks.is("likeness ahead", x.likeness(0, 0, 6), 100);
            likeAnew(checks, x, 1);
            checks.is("mend of the one version", x.mendWords(0, 2, 0, Rows.row(rule)), 0);
            checks.is("fingerprints", x.fingerprints(6, 0), 2);
            checks.is("fingerprints of the other version", x.fingerprints(0, 0), 3);
            checks.is("likeness, two of two and three", x.likeness(0, 0, 6), 100);
            checks.is("the other way round", x.likeness(0, 6, 0), 100);
            checks.is("with print", x.withPrint(0, Rows.print(rule[0], rule[1], rule[2])), 1);
            likeAnew(checks, x, 1);
            checks.is("mend of the other version", x.mendWords(0, 1, 0, Rows.row(1, 2, 3, 4, 5)), 0);
            checks.is("likeness, none", x.likeness(0, 0, 6), 0);
            checks.is("the other way round", x.likeness(0, 6, 0), 0);
            likeAnew(checks, x, 0);
        }
    }

    /** "Each number counts once in an answer." */
    private static void eachNumberOnce(Checks checks) {
        Vault x = withRule(1);
        Rows.handWords(x, 0, 0, 0, 1, 1, 1, 1, 1, 1, 1, 1, 1, 1, 1, 1);
        indexed(checks, "one word again and again", x, 0, Rows.print(1, 1, 1));
        Rows.handWords(x, 3, 0, 0, 1, 2, 1, 2, 1, 2, 1, 2);
        indexed(checks, "two words again and again", x, 3, Rows.print(1, 2, 1), Rows.print(2, 1, 2));
        Rows.handWords(x, 6, 0, 0, 1, 2, 3, 9, 1, 2, 3);
        indexed(checks, "three words twice", x, 6, Rows.print(1, 2, 3), Rows.print(2, 3, 9), Rows.print(3, 9, 1),
                Rows.print(9, 1, 2));
        checks.is("likeness by numbers that count once", x.likeness(0, 0, 3), 0);
        Rows.handWords(x, 7, 0, 0, 1, 2, 3, 8, 1, 2, 3);
        checks.is("one number in common of four", x.likeness(0, 6, 7), 25);
        likeAnew(checks, x, 0);

        Vault y = Rows.withSheets(1);
        y.setWords(0, 0, 0, 10, 1);
        y.setWords(0, 0, 3, 10, 1);
        y.open(0, 0);
        Rows.sayAll(y, 0, 0, 0, 1, 2, 3);
        Rows.sayAll(y, 0, 0, 3, 1, 2, 3);
        y.hand(0, 0);
        indexed(checks, "the same for two tasks", y, 0, Rows.print(1, 2, 3));
    }

    /** One number in common is no pair, however often it was said. */
    private static void pairsByNumbersThatCountOnce(Checks checks) {
        int[][] said = {{1, 1, 1, 1}, {1, 1, 1, 1, 1, 1, 1, 1, 1, 1, 1, 1}, {1, 1, 1}, {1, 1, 1, 2}};
        for (int[] one : said) {
            for (int[] two : said) {
                Vault x = withRule(1);
                Rows.handWords(x, 0, 0, 0, one);
                Rows.handWords(x, 3, 0, 0, two);
                boolean isPair = one == two && one.length == 4 && one[3] == 2;
                checks.is("likeness", x.likeness(0, 0, 3), 100);
                likeAnew(checks, x, isPair ? 1 : 0);
            }
        }
        // Two in common of two, and two of four: the first one's numbers were said three times each.
        Vault y = withRule(1);
        Rows.handWords(y, 0, 0, 0, 1, 2, 1, 2, 1, 2, 1, 2);
        Rows.handWords(y, 3, 0, 0, 1, 2, 1, 2, 3, 4);
        Rows.handWords(y, 6, 0, 0, 1, 2, 3, 1, 2, 3, 1, 2);
        Rows.handWords(y, 9, 0, 0, 1, 2, 3, 4, 5, 6, 1, 2, 3);
        checks.is("two of two", y.likeness(0, 0, 3), 100);
        checks.is("one of three", y.likeness(0, 6, 9), 33);
        likeAnew(checks, y, 1);
        Vault z = Rows.withSheets(1);
        z.setWords(0, 0, 1, 10, 1);
        z.setWords(0, 0, 4, 10, 1);
        for (int pupil = 0; pupil < 2; pupil++) {
            z.open(pupil, 0);
            Rows.sayAll(z, pupil, 0, 1, 1, 2, 3);
            Rows.sayAll(z, pupil, 0, 4, 1, 2, 3);
            z.hand(pupil, 0);
        }
        likeAnew(checks, z, 0);
    }

    /** 50 fingerprints, and the last two of each task make a pair with another answer. */
    private static void pairsOfAFullAnswer(Checks checks) {
        Vault x = Rows.withSheets(1);
        for (int task = 0; task < 5; task++) {
            x.setWords(0, 0, task, 10, 1 + task);
        }
        x.adopt(1, 0, 5);
        x.open(0, 0);
        for (int task = 0; task < 5; task++) {
            for (int place = 0; place < 12; place++) {
                x.say(0, 0, task, wordOfAFullAnswer(task, place));
            }
        }
        checks.is("hand", x.hand(0, 0), 50);
        checks.is("fingerprints", x.fingerprints(0, 0), 50);
        for (int task = 0; task < 5; task++) {
            int pupil = 1 + task;
            x.open(pupil, 0);
            x.say(pupil, 0, (task + 1) % 5, 1 + (task + 1) % 5);
            for (int place = 8; place < 12; place++) {
                x.say(pupil, 0, task, wordOfAFullAnswer(task, place));
            }
            x.hand(pupil, 0);
            checks.is("fingerprints", x.fingerprints(pupil, 0), 2);
            checks.is("likeness", x.likeness(0, 0, pupil), 100);
            likeAnew(checks, x, pupil);
        }
    }

    private static int wordOfAFullAnswer(int task, int place) {
        return 1 + (place * (task + 1) + task) % 31;
    }

    /** "An answer is in the index of its sheet if it was handed in". */
    private static void handedIn(Checks checks) {
        Vault x = withRule(1);
        for (int pupil = 0; pupil < 2; pupil++) {
            x.open(pupil, 0);
            Rows.sayAll(x, pupil, 0, 0, 1, 2, 3, 4);
            indexed(checks, "an open answer", x, pupil);
        }
        checks.is("print of open answers", x.withPrint(0, Rows.print(1, 2, 3)), 0);
        checks.is("likeness of open answers", x.likeness(0, 0, 1), 0);
        x.hand(0, 0);
        checks.is("likeness with an open answer", x.likeness(0, 0, 1), 0);
        checks.is("likeness with an open answer", x.likeness(0, 1, 0), 0);
        likeAnew(checks, x, 0);
        x.mendWords(0, 1, 0, 2);
        checks.is("an open answer after a mend", x.withPrint(0, Rows.print(1, 2, 3)), 1);
        x.hand(1, 0);
        checks.is("likeness", x.likeness(0, 0, 1), 100);
        likeAnew(checks, x, 1);
        x.open(2, 0);
        Rows.sayAll(x, 2, 0, 0, 1, 2, 3, 4);
        x.close(0, 0);
        checks.is("what is forgotten", x.withPrint(0, Rows.print(1, 2, 3)), 3);
        likeAnew(checks, x, 1);
    }

    /** "and its mark is above 0". */
    private static void markAboveZero(Checks checks) {
        Vault x = Rows.withSheets(1);
        x.setWords(0, 0, 0, 1, 1);
        Rows.handWords(x, 0, 0, 0, 2, 3, 4, 5);
        Rows.handWords(x, 1, 0, 0, 2, 3, 4, 5);
        checks.is("mark", x.mark(0, 0), 0);
        indexed(checks, "a mark of 0", x, 0);
        checks.is("likeness of marks of 0", x.likeness(0, 0, 1), 0);
        likeAnew(checks, x, 0);
        Rows.handWords(x, 2, 0, 0, 2, 3, 4, 5, 1);
        checks.is("mark", x.mark(2, 0), 1);
        indexed(checks, "a mark of 1", x, 2, Rows.print(2, 3, 4), Rows.print(3, 4, 5), Rows.print(4, 5, 1));
        Vault low = Rows.withSheets(1);
        low.setWords(0, 0, 0, 1, 1);
        Rows.handWords(low, 0, 0, 0, 9, 8, 7, 6, 5, 1);
        indexed(checks, "a mark of 1, the highest print first", low, 0, Rows.print(9, 8, 7), Rows.print(8, 7, 6),
                Rows.print(7, 6, 5), Rows.print(6, 5, 1));
        checks.is("likeness of marks of 0 and 1", x.likeness(0, 0, 2), 0);
        checks.is("with print", x.withPrint(0, Rows.print(2, 3, 4)), 4);

        Vault y = Rows.withSheets(1);
        y.setWords(0, 0, 0, 10, 1);
        y.setChoice(0, 0, 1, 1, 0);
        Rows.handWords(y, 0, 0, 0, 2, 3, 4);
        checks.is("mark by another task", y.mark(0, 0), 1);
        indexed(checks, "a mark by another task", y, 0, Rows.print(2, 3, 4));
        checks.is("mend of the other task", y.mendChoice(0, 2, 1, 1), 1);
        indexed(checks, "a mark lost by another task", y, 0);
    }

    private static void mendsThatMoveTheIndex(Checks checks) {
        Vault x = withRule(9);
        Rows.handWords(x, 0, 0, 0, 1, 2, 3, 4);
        Rows.handWords(x, 11, 0, 0, 1, 2, 3, 4);
        for (int round = 0; round < 3; round++) {
            checks.is("mend to marks above 0", x.mendWords(0, 1, 0, 4), 2);
            checks.is("with print", x.withPrint(0, Rows.print(2, 3, 4)), 1 | 1 << 11);
            checks.is("likeness", x.likeness(0, 11, 0), 100);
            checks.is("the pair", x.pairAt(0, 0), 11);
            likeAnew(checks, x, 1);
            checks.is("mend to marks of 0", x.mendWords(0, 1, 0, 9), 2);
            checks.is("with print", x.withPrint(0, Rows.print(2, 3, 4)), 0);
            checks.is("likeness", x.likeness(0, 11, 0), 0);
            likeAnew(checks, x, 0);
            checks.index(x, "no pair", v -> v.pairAt(0, 0));
        }
    }

    /** The mark counts, not the due mark: where the sheet is closed for the class, it stays. */
    private static void closedMarks(Checks checks) {
        Vault x = withRule(1);
        Rows.handWords(x, 0, 0, 0, 1, 2, 3, 4);
        Rows.handWords(x, 3, 0, 0, 9, 2, 3, 4);
        x.close(0, 0);
        x.close(1, 0);
        checks.is("mend", x.mendWords(0, 1, 0, 9), 2);
        checks.is("due of the mark that stays", x.due(0, 0), 0);
        indexed(checks, "a mark above 0 that stays", x, 0, Rows.print(1, 2, 3), Rows.print(2, 3, 4));
        checks.is("due of the mark of 0 that stays", x.due(3, 0), 10);
        indexed(checks, "a mark of 0 that stays", x, 3);
        checks.is("likeness", x.likeness(0, 0, 3), 0);

        Vault y = withRule(1);
        int[] firsts = {1, 1, 9, 9};
        int[] pupils = {0, 2, 3, 5};
        for (int place = 0; place < 4; place++) {
            Rows.handWords(y, pupils[place], 0, 0, firsts[place], 2, 3, 4, 5);
        }
        likeAnew(checks, y, 1);
        y.close(0, 0);
        y.close(1, 0);
        checks.is("mend for the one class and against the other", y.mendWords(0, 1, 0, 9), 4);
        checks.is("due of marks above 0 that stay", y.due(0, 0) + y.due(2, 0), 0);
        checks.is("due of marks of 0 that stay", y.due(3, 0) + y.due(5, 0), 20);
        likeAnew(checks, y, 1);
        checks.is("the pair of marks above 0", y.pairAt(0, 0), 2);
        checks.is("likeness of marks above 0", y.likeness(0, 0, 2), 100);
        checks.is("likeness of marks of 0", y.likeness(0, 3, 5), 0);
    }

    private static Vault two(int[] one, int[] other) {
        Vault x = withRule(1);
        Rows.handWords(x, 4, 0, 0, one);
        Rows.handWords(x, 9, 0, 0, other);
        return x;
    }

    /** "100 times the number of fingerprints that both have, divided by the lesser one of the numbers of both". */
    private static void likenesses(Checks checks) {
        int[] all = {1, 2, 3, 4, 5, 6, 7, 8, 9, 10, 11, 12};
        int[][] others = {
            {1, 2, 3}, {1, 2, 4}, {1, 2, 3, 9}, {1, 2, 3, 4, 9}, {1, 2, 3, 9, 9}, {1, 2, 3, 4, 5, 9, 9, 9}, all,
            {12, 11, 10, 9, 8, 7, 6, 5, 4, 3, 2, 1}, {1, 2, 3, 4, 5, 6, 13, 13}, {1, 2, 3, 13, 14, 15, 16, 17, 18},
            {1, 2, 3, 4, 5, 6, 7, 8, 9, 10, 11, 13}, {1, 2, 3, 13, 14, 15, 16, 17, 18, 19, 20, 21},
        };
        int[] due = {100, 0, 50, 66, 33, 50, 100, 0, 66, 14, 90, 10};
        for (int row = 0; row < others.length; row++) {
            Vault x = two(all, others[row]);
            checks.is("likeness with " + Arrays.toString(others[row]), x.likeness(0, 4, 9), due[row]);
            checks.is("the other way round", x.likeness(0, 9, 4), due[row]);
        }
        Vault x = two(all, all);
        checks.is("the same pupil", x.likeness(0, 4, 4), 0);
        checks.is("the same pupil without answer", x.likeness(0, 5, 5), 0);
    }

    /** "0 if one has none". */
    private static void likenessOfNone(Checks checks) {
        Vault x = two(new int[] {1, 2, 3, 4}, new int[] {1, 2});
        checks.is("the other one has none", x.likeness(0, 4, 9), 0);
        checks.is("the first one has none", x.likeness(0, 9, 4), 0);
        Rows.handWords(x, 10, 0, 0, 1, 2);
        checks.is("both have none", x.likeness(0, 9, 10), 0);
        checks.is("no answer", x.likeness(0, 4, 5), 0);
        checks.is("no answer first", x.likeness(0, 5, 4), 0);
        checks.is("no answers", x.likeness(0, 6, 7), 0);
        likeAnew(checks, x, 0);
    }

    /** "They are a pair if they have at least 2 fingerprints in common". */
    private static void twoInCommon(Checks checks) {
        int[] three = {1, 2, 3};
        int[] four = {1, 2, 3, 4};
        paired(checks, three, three, 100, 0);
        paired(checks, three, four, 100, 0);
        paired(checks, three, new int[] {9, 9, 9, 1, 2, 3, 4, 5}, 100, 0);
        paired(checks, three, new int[] {12, 11, 10, 9, 8, 7, 6, 5, 4, 1, 2, 3}, 100, 0);
        paired(checks, four, four, 100, 1);
        paired(checks, four, new int[] {1, 2, 3, 4, 5}, 100, 1);
        paired(checks, four, new int[] {9, 8, 7, 1, 2, 3, 4, 5, 6, 9, 9, 9}, 100, 1);
        paired(checks, new int[] {1, 2}, new int[] {1, 2}, 0, 0);
        paired(checks, new int[] {1, 2}, four, 0, 0);
        paired(checks, new int[] {1}, new int[] {1, 2, 3, 4, 5, 6, 7, 8, 9, 10, 11, 12}, 0, 0);
    }

    /** The same whichever of both pupils has said the one and the other. */
    private static void paired(Checks checks, int[] one, int[] other, int likeness, int pairs) {
        for (int turn = 0; turn < 2; turn++) {
            Vault x = turn == 0 ? two(one, other) : two(other, one);
            String what = Arrays.toString(one) + " and " + Arrays.toString(other);
            checks.is("likeness of " + what, x.likeness(0, 4, 9), likeness);
            checks.is("the other way round", x.likeness(0, 9, 4), likeness);
            likeAnew(checks, x, pairs);
            if (pairs == 0) {
                checks.index(x, "no pair", v -> v.pairAt(0, 0));
            } else {
                checks.is("the pair", x.pairAt(0, 0), 409);
                checks.index(x, "no second pair", v -> v.pairAt(0, 1));
            }
        }
    }

    /** "and a likeness of at least 60". */
    private static void sixty(Checks checks) {
        int[][] ones = {
            {1, 2, 3, 4, 5, 6, 7}, {1, 2, 3, 4, 5, 6, 7}, {1, 2, 3, 4, 5, 6, 7, 8, 9, 10, 11, 12},
            {1, 2, 3, 4, 5, 6, 7, 8, 9, 10, 11, 12}, {1, 2, 3, 4, 5}, {1, 2, 3, 4, 5, 6}, {1, 2, 3, 4, 5, 6, 7, 8, 9},
        };
        int[][] others = {
            {1, 2, 3, 4, 5, 16, 17}, {1, 2, 3, 4, 15, 16, 17}, {1, 2, 3, 4, 5, 6, 7, 8, 19, 20, 21, 22},
            {1, 2, 3, 4, 5, 6, 7, 18, 19, 20, 21, 22}, {1, 2, 3, 4, 15}, {1, 2, 3, 4, 15, 16},
            {1, 2, 3, 4, 5, 6, 17, 18, 19},
        };
        int[] due = {60, 40, 60, 50, 66, 50, 57};
        for (int row = 0; row < ones.length; row++) {
            paired(checks, ones[row], others[row], due[row], due[row] >= 60 ? 1 : 0);
        }
        int[] five = {1, 2, 3, 4, 5, 16, 17};
        paired(checks, five, new int[] {1, 2, 3, 4, 5, 6, 7, 8, 9, 10, 11, 12}, 60, 1);
        int[] four = {1, 2, 3, 4, 15, 16};
        paired(checks, four, new int[] {1, 2, 3, 4, 5, 6, 7, 8, 9, 10, 11, 12}, 50, 0);
        nearSixty(checks, 13, 59);
        nearSixty(checks, 14, 63);
    }

    /** So many of 22 in common: 13 are 59.09 of a hundred, which is below 60. */
    private static void nearSixty(Checks checks, int common, int due) {
        Vault x = Rows.withSheets(1);
        x.setWords(0, 0, 0, 10, 1);
        x.setWords(0, 0, 1, 10, 13);
        x.setWords(0, 0, 2, 10, 25);
        for (int pupil = 0; pupil < 2; pupil++) {
            x.open(pupil, 0);
            Rows.sayAll(x, pupil, 0, 0, 1, 2, 3, 4, 5, 6, 7, 8, 9, 10, 11, 12);
            for (int place = 0; place < 12; place++) {
                boolean same = pupil == 0 || place < common - 10 + 2;
                x.say(pupil, 0, 1, same ? 13 + place : 13 - place / 2);
            }
            Rows.sayAll(x, pupil, 0, 2, 25, 26 + pupil, 27 + pupil, 28 + pupil);
            x.hand(pupil, 0);
            checks.is("fingerprints", x.fingerprints(pupil, 0), 22);
        }
        checks.is("likeness", x.likeness(0, 0, 1), due);
        likeAnew(checks, x, due >= 60 ? 1 : 0);
    }

    private static void bothWays(Checks checks) {
        Vault x = withRule(1);
        for (int pupil = 0; pupil < 12; pupil++) {
            Rows.handWords(x, pupil, 0, 0, 1, 1 + pupil % 2, 3 + pupil % 3, 4, 5, 6);
        }
        for (int pupil = 0; pupil < 12; pupil++) {
            for (int other = 0; other < 12; other++) {
                // Of four fingerprints each: all in common, the two without the second word, or the last one.
                int fit = pupil % 6 == other % 6 ? 100 : pupil % 3 == other % 3 ? 50 : 25;
                int due = pupil == other ? 0 : fit;
                checks.is("likeness of " + pupil + " and " + other, x.likeness(0, pupil, other), due);
            }
        }
        likeAnew(checks, x, 6);
        for (int place = 0; place < 6; place++) {
            checks.is("pair", x.pairAt(0, place), 100 * place + place + 6);
        }
    }

    /** pairAt: "by rising lower pupils, those with the same one by rising other pupils". */
    private static void placesInOrder(Checks checks) {
        Vault x = withRule(1);
        for (int pupil = 11; pupil >= 0; pupil--) {
            Rows.handWords(x, pupil, 0, 0, 1, 2, 3, 4);
        }
        likeAnew(checks, x, 66);
        int place = 0;
        for (int lower = 0; lower < 12; lower++) {
            for (int other = lower + 1; other < 12; other++) {
                checks.is("pairAt " + place, x.pairAt(0, place), 100 * lower + other);
                place++;
            }
        }
        checks.index(x, "pairAt 66", v -> v.pairAt(0, 66));
        checks.index(x, "pairAt -1", v -> v.pairAt(0, -1));
    }

    /** "in the index of its sheet". */
    private static void indexOfItsSheet(Checks checks) {
        Vault x = Rows.withSheets(2);
        for (int sheet = 0; sheet < 2; sheet++) {
            x.setWords(0, sheet, 0, 10, 1);
            Rows.handWords(x, sheet, sheet, 0, 1, 2, 3, 4);
        }
        checks.is("with print in the sheet 0", x.withPrint(0, Rows.print(1, 2, 3)), 1);
        checks.is("with print in the sheet 1", x.withPrint(1, Rows.print(1, 2, 3)), 2);
        checks.is("fingerprints in the sheet 1", x.fingerprints(0, 1), 0);
        checks.is("likeness in the sheet 0", x.likeness(0, 0, 1), 0);
        checks.is("pairs in the sheet 0", x.pairs(0), 0);
        Rows.handWords(x, 0, 1, 0, 1, 2, 3, 4);
        checks.is("pairs in the sheet 1", x.pairs(1), 1);
        checks.is("pairsAnew in the sheet 1", x.pairsAnew(1), 1);
        likeAnew(checks, x, 0);
        checks.is("mend in the sheet 0", x.mendWords(0, 1, 0, Rows.row(1, 2, 3)), 0);
        checks.is("fingerprints in the sheet 0", x.fingerprints(0, 0), 1);
        checks.is("fingerprints in the sheet 1", x.fingerprints(0, 1), 2);
    }
}
