/**
 * An exercise server of a school: sheets of tasks in versions, answers tied to versions, a grader whose rules can be
 * mended, an index of fingerprints, and a quota of storage for each class.
 */
public final class SheetVault {
    public static final int NONE = -1;
    public static final int NUMBER = 0, CHOICE = 1, WORDS = 2;
    public static final int NO_ANSWER = 0, OPEN = 1, HANDED = 2;

    private static final int CLASSES = 4;
    private static final int CLASS_SIZE = 3;
    private static final int PUPILS = CLASSES * CLASS_SIZE;
    private static final int MOST_SHEETS = 4;
    private static final int MOST_VERSIONS = 16;
    private static final int TASKS = 5;

    private static final int MOST_POINTS = 10;
    private static final int MOST_VALUE = 1000;
    private static final int MOST_SLACK = 100;
    private static final int SIGNS = 5;
    private static final int ALL_SIGNS = (1 << SIGNS) - 1;
    private static final int WORD_BITS = 5;
    private static final int MOST_WORD = (1 << WORD_BITS) - 1;
    private static final int MOST_RULE_WORDS = 6;
    private static final int MOST_SAID_WORDS = 12;

    private static final int THREE = 3;
    private static final int MOST_PRINTS = TASKS * (MOST_SAID_WORDS - THREE + 1);
    private static final int PAIR_PRINTS = 2;
    private static final int PAIR_LIKENESS = 60;

    private static final int FIRST_QUOTA = 100;
    private static final int MOST_QUOTA = 1000;

    private final Sheet[] sheetRow = new Sheet[MOST_SHEETS];
    private int sheetCount = 0;
    private final int[] quotas = new int[CLASSES];
    private final int[] uses = new int[CLASSES];
    // Rows to work in, made once so that no call makes new ones.
    private final int[] commonLengths = new int[MOST_RULE_WORDS + 1];
    private final int[][] threeRows = new int[PUPILS][MOST_PRINTS];
    private final int[] threeCounts = new int[PUPILS];

    public SheetVault() {
        for (int group = 0; group < CLASSES; group++) {
            quotas[group] = FIRST_QUOTA;
        }
    }

    // ---- sheets and versions

    public int addSheet() throws IllegalStateException {
        if (sheetCount >= MOST_SHEETS) {
            throw new IllegalStateException("there are 4 sheets");
        }
        int number = sheetCount;
        sheetRow[number] = new Sheet();
        sheetCount++;
        return number;
    }

    public int setNumber(int group, int sheet, int task, int points, int value, int slack)
            throws IndexOutOfBoundsException, IllegalArgumentException, IllegalStateException {
        checkClass(group);
        Sheet its = sheetAt(sheet);
        checkTask(task);
        checkRange(points, 1, MOST_POINTS);
        checkNumberRule(value, slack);
        return revise(group, its, task, new Entry(NUMBER, points, value, slack));
    }

    public int setChoice(int group, int sheet, int task, int points, int signs)
            throws IndexOutOfBoundsException, IllegalArgumentException, IllegalStateException {
        checkClass(group);
        Sheet its = sheetAt(sheet);
        checkTask(task);
        checkRange(points, 1, MOST_POINTS);
        checkRange(signs, 0, ALL_SIGNS);
        return revise(group, its, task, new Entry(CHOICE, points, signs, 0));
    }

    public int setWords(int group, int sheet, int task, int points, int words)
            throws IndexOutOfBoundsException, IllegalArgumentException, IllegalStateException {
        checkClass(group);
        Sheet its = sheetAt(sheet);
        checkTask(task);
        checkRange(points, 1, MOST_POINTS);
        checkWordsRule(words);
        return revise(group, its, task, new Entry(WORDS, points, words, 0));
    }

    public int drop(int group, int sheet, int task) throws IndexOutOfBoundsException, IllegalStateException {
        checkClass(group);
        Sheet its = sheetAt(sheet);
        checkTask(task);
        if (taskOf(its.heads[group], task) == null) {
            throw new IllegalStateException("the head has no such task");
        }
        return revise(group, its, task, new Entry(NONE, 0, 0, 0));
    }

    public int adopt(int group, int sheet, int version) throws IndexOutOfBoundsException {
        checkClass(group);
        Sheet its = sheetAt(sheet);
        Version adopted = versionAt(its, version);
        int before = numberOf(its.heads[group]);
        its.heads[group] = adopted;
        return before;
    }

    public int fold(int sheet, int version) throws IndexOutOfBoundsException, IllegalStateException {
        Sheet its = sheetAt(sheet);
        Version folded = versionAt(its, version);
        if (!its.canFold(folded)) {
            throw new IllegalStateException("the version cannot be folded");
        }
        Version child = its.childOf(folded);
        int freed = folded.size();
        int moved = 0;
        if (child != null) {
            moved = folded.sizeMissingIn(child);
            if (child.owner != folded.owner && passesQuota(child.owner, moved)) {
                throw new IllegalStateException("the quota would be passed");
            }
            addUse(child.owner, moved);
            child.inherit(folded);
        }
        addUse(folded.owner, -freed);
        its.remove(folded);
        return freed - moved;
    }

    public int sheets() {
        return sheetCount;
    }

    public int versions(int sheet) throws IndexOutOfBoundsException {
        Sheet its = sheetAt(sheet);
        int kept = 0;
        for (int number = 0; number < MOST_VERSIONS; number++) {
            if (its.versionRow[number] != null) {
                kept++;
            }
        }
        return kept;
    }

    public int head(int group, int sheet) throws IndexOutOfBoundsException {
        checkClass(group);
        return numberOf(sheetAt(sheet).heads[group]);
    }

    public int parent(int sheet, int version) throws IndexOutOfBoundsException {
        return numberOf(versionAt(sheetAt(sheet), version).origin);
    }

    public int kindOf(int sheet, int version, int task) throws IndexOutOfBoundsException {
        Version its = versionAt(sheetAt(sheet), version);
        checkTask(task);
        Entry entry = taskOf(its, task);
        return entry == null ? NONE : entry.kind;
    }

    public int toldIn(int sheet, int version, int task) throws IndexOutOfBoundsException {
        Version its = versionAt(sheetAt(sheet), version);
        checkTask(task);
        return numberOf(tellerOf(its, task));
    }

    public int points(int sheet, int version) throws IndexOutOfBoundsException {
        Version its = versionAt(sheetAt(sheet), version);
        int sum = 0;
        for (int task = 0; task < TASKS; task++) {
            Entry entry = taskOf(its, task);
            if (entry != null) {
                sum += entry.points;
            }
        }
        return sum;
    }

    // ---- mends

    public int mendNumber(int sheet, int version, int task, int value, int slack)
            throws IndexOutOfBoundsException, IllegalArgumentException, IllegalStateException {
        Sheet its = sheetAt(sheet);
        Version mended = versionAt(its, version);
        checkTask(task);
        checkNumberRule(value, slack);
        return mend(its, mended, task, NUMBER, value, slack);
    }

    public int mendChoice(int sheet, int version, int task, int signs)
            throws IndexOutOfBoundsException, IllegalArgumentException, IllegalStateException {
        Sheet its = sheetAt(sheet);
        Version mended = versionAt(its, version);
        checkTask(task);
        checkRange(signs, 0, ALL_SIGNS);
        return mend(its, mended, task, CHOICE, signs, 0);
    }

    public int mendWords(int sheet, int version, int task, int words)
            throws IndexOutOfBoundsException, IllegalArgumentException, IllegalStateException {
        Sheet its = sheetAt(sheet);
        Version mended = versionAt(its, version);
        checkTask(task);
        checkWordsRule(words);
        return mend(its, mended, task, WORDS, words, 0);
    }

    // ---- answers and marks

    public int open(int pupil, int sheet) throws IndexOutOfBoundsException, IllegalStateException {
        checkPupil(pupil);
        Sheet its = sheetAt(sheet);
        int group = classOf(pupil);
        if (its.answerRow[pupil] != null) {
            throw new IllegalStateException("there is an answer");
        }
        if (its.closed[group]) {
            throw new IllegalStateException("the sheet is closed for the class");
        }
        Version head = its.heads[group];
        its.answerRow[pupil] = new Answer(head);
        return numberOf(head);
    }

    public int say(int pupil, int sheet, int task, int said)
            throws IndexOutOfBoundsException, IllegalArgumentException, IllegalStateException {
        checkPupil(pupil);
        Sheet its = sheetAt(sheet);
        checkTask(task);
        Answer answer = openAnswer(its, pupil);
        Entry entry = taskOf(answer.version, task);
        Said part = answer.parts[task];
        if (entry == null || part == null) {
            throw new IllegalStateException("the version has no such task");
        }
        checkSaid(entry.kind, said);
        int growth = part.growthBy(entry.kind, said);
        if (part.isFull(entry.kind)) {
            throw new IllegalStateException("there are 12 words");
        }
        if (passesQuota(classOf(pupil), growth)) {
            throw new IllegalStateException("the quota would be passed");
        }
        part.add(entry.kind, said);
        addUse(classOf(pupil), growth);
        return answer.size();
    }

    public int hand(int pupil, int sheet) throws IndexOutOfBoundsException, IllegalStateException {
        checkPupil(pupil);
        Sheet its = sheetAt(sheet);
        Answer answer = openAnswer(its, pupil);
        answer.handed = true;
        answer.dueMark = grade(answer, false);
        answer.mark = answer.dueMark;
        answer.findPrints();
        return answer.mark;
    }

    public int close(int group, int sheet) throws IndexOutOfBoundsException, IllegalStateException {
        checkClass(group);
        Sheet its = sheetAt(sheet);
        if (its.closed[group]) {
            throw new IllegalStateException("the sheet is closed for the class");
        }
        its.closed[group] = true;
        int handedIn = 0;
        for (int pupil = 0; pupil < PUPILS; pupil++) {
            Answer answer = its.answerRow[pupil];
            if (answer == null || classOf(pupil) != group) {
                continue;
            }
            if (answer.handed) {
                handedIn++;
            } else {
                addUse(group, -answer.size());
                its.answerRow[pupil] = null;
            }
        }
        return handedIn;
    }

    public int answer(int pupil, int sheet) throws IndexOutOfBoundsException {
        Answer answer = answerAt(pupil, sheet);
        if (answer == null) {
            return NO_ANSWER;
        }
        return answer.handed ? HANDED : OPEN;
    }

    public int mark(int pupil, int sheet) throws IndexOutOfBoundsException {
        Answer answer = answerAt(pupil, sheet);
        return answer == null ? NONE : answer.mark;
    }

    public int due(int pupil, int sheet) throws IndexOutOfBoundsException {
        Answer answer = answerAt(pupil, sheet);
        return answer == null ? NONE : grade(answer, true);
    }

    public int told(int pupil, int sheet) throws IndexOutOfBoundsException {
        Answer answer = answerAt(pupil, sheet);
        return answer == null ? 0 : answer.mendsTold;
    }

    public int average(int group, int sheet) throws IndexOutOfBoundsException {
        checkClass(group);
        Sheet its = sheetAt(sheet);
        int sum = 0;
        int marks = 0;
        for (int pupil = 0; pupil < PUPILS; pupil++) {
            Answer answer = its.answerRow[pupil];
            if (answer != null && answer.handed && classOf(pupil) == group) {
                sum += answer.mark;
                marks++;
            }
        }
        return marks == 0 ? NONE : sum * 100 / marks;
    }

    // ---- the index

    public int fingerprints(int pupil, int sheet) throws IndexOutOfBoundsException {
        Answer answer = answerAt(pupil, sheet);
        return answer == null ? 0 : answer.printCount;
    }

    public int withPrint(int sheet, int print) throws IndexOutOfBoundsException {
        Sheet its = sheetAt(sheet);
        int pupils = 0;
        for (int pupil = 0; pupil < PUPILS; pupil++) {
            Answer answer = its.answerRow[pupil];
            if (answer != null && answer.hasPrint(print)) {
                pupils |= 1 << pupil;
            }
        }
        return pupils;
    }

    public int likeness(int sheet, int pupil, int other) throws IndexOutOfBoundsException {
        Sheet its = sheetAt(sheet);
        checkPupil(pupil);
        checkPupil(other);
        Answer one = its.answerRow[pupil];
        Answer two = its.answerRow[other];
        if (pupil == other || one == null || two == null) {
            return 0;
        }
        return likenessBy(one.commonPrints(two), one.printCount, two.printCount);
    }

    public int pairs(int sheet) throws IndexOutOfBoundsException {
        Sheet its = sheetAt(sheet);
        int found = 0;
        for (int lower = 0; lower < PUPILS; lower++) {
            for (int other = lower + 1; other < PUPILS; other++) {
                if (its.arePair(lower, other)) {
                    found++;
                }
            }
        }
        return found;
    }

    public int pairAt(int sheet, int place) throws IndexOutOfBoundsException {
        Sheet its = sheetAt(sheet);
        int found = 0;
        for (int lower = 0; lower < PUPILS; lower++) {
            for (int other = lower + 1; other < PUPILS; other++) {
                if (its.arePair(lower, other)) {
                    if (found == place) {
                        return 100 * lower + other;
                    }
                    found++;
                }
            }
        }
        throw new IndexOutOfBoundsException("there is no such place");
    }

    public int pairsAnew(int sheet) throws IndexOutOfBoundsException {
        Sheet its = sheetAt(sheet);
        for (int pupil = 0; pupil < PUPILS; pupil++) {
            collectThrees(its.answerRow[pupil], pupil);
        }
        int found = 0;
        for (int lower = 0; lower < PUPILS; lower++) {
            for (int other = lower + 1; other < PUPILS; other++) {
                if (isPairBy(commonThrees(lower, other), threeCounts[lower], threeCounts[other])) {
                    found++;
                }
            }
        }
        return found;
    }

    // ---- storage

    public int setQuota(int group, int quota) throws IndexOutOfBoundsException, IllegalArgumentException {
        checkClass(group);
        checkRange(quota, 0, MOST_QUOTA);
        int before = quotas[group];
        quotas[group] = quota;
        return before;
    }

    public int used(int group) throws IndexOutOfBoundsException {
        checkClass(group);
        return uses[group];
    }

    public int usedAnew(int group) throws IndexOutOfBoundsException {
        checkClass(group);
        int sum = 0;
        for (int number = 0; number < MOST_SHEETS; number++) {
            Sheet its = sheetRow[number];
            if (its != null) {
                sum += its.sizeOfVersions(group) + its.sizeOfAnswers(group);
            }
        }
        return sum;
    }

    // ---- what is looked at ahead of every call

    private static void checkClass(int group) {
        if (group < 0 || group >= CLASSES) {
            throw new IndexOutOfBoundsException("there is no such class");
        }
    }

    private static void checkPupil(int pupil) {
        if (pupil < 0 || pupil >= PUPILS) {
            throw new IndexOutOfBoundsException("there is no such pupil");
        }
    }

    private static void checkTask(int task) {
        if (task < 0 || task >= TASKS) {
            throw new IndexOutOfBoundsException("there is no such task");
        }
    }

    private static void checkRange(int number, int least, int most) {
        if (number < least || number > most) {
            throw new IllegalArgumentException("an argument is out of its range");
        }
    }

    private static void checkNumberRule(int value, int slack) {
        checkRange(value, -MOST_VALUE, MOST_VALUE);
        checkRange(slack, 0, MOST_SLACK);
    }

    private static void checkWordsRule(int row) {
        // Bits behind the last word that is counted are either above the sixth word or behind a word of 0.
        int words = rowLength(row);
        if (words == 0 || row >>> (words * WORD_BITS) != 0) {
            throw new IllegalArgumentException("the words are no row");
        }
    }

    private static void checkSaid(int kind, int said) {
        if (kind == NUMBER) {
            checkRange(said, -MOST_VALUE, MOST_VALUE);
        } else if (kind == CHOICE) {
            checkRange(said, 0, SIGNS - 1);
        } else {
            checkRange(said, 1, MOST_WORD);
        }
    }

    private Sheet sheetAt(int sheet) {
        if (sheet < 0 || sheet >= MOST_SHEETS) {
            throw new IndexOutOfBoundsException("there is no such sheet");
        }
        Sheet its = sheetRow[sheet];
        if (its == null) {
            throw new IndexOutOfBoundsException("there is no such sheet");
        }
        return its;
    }

    private static Version versionAt(Sheet sheet, int version) {
        if (version < 0 || version >= MOST_VERSIONS) {
            throw new IndexOutOfBoundsException("there is no such version");
        }
        Version its = sheet.versionRow[version];
        if (its == null) {
            throw new IndexOutOfBoundsException("there is no such version");
        }
        return its;
    }

    private Answer answerAt(int pupil, int sheet) {
        checkPupil(pupil);
        return sheetAt(sheet).answerRow[pupil];
    }

    private static Answer openAnswer(Sheet sheet, int pupil) {
        Answer answer = sheet.answerRow[pupil];
        if (answer == null || answer.handed) {
            throw new IllegalStateException("there is no open answer");
        }
        return answer;
    }

    // ---- versions and tasks

    private static int classOf(int pupil) {
        return pupil / CLASS_SIZE;
    }

    private static int numberOf(Version version) {
        return version == null ? NONE : version.number;
    }

    /** The version whose entry tells the task, or null. */
    private static Version tellerOf(Version version, int task) {
        for (Version at = version; at != null; at = at.origin) {
            if (at.entries[task] != null) {
                return at;
            }
        }
        return null;
    }

    /** The entry that sets the task, or null if the version has no such task. */
    private static Entry taskOf(Version version, int task) {
        Version teller = tellerOf(version, task);
        if (teller == null) {
            return null;
        }
        Entry entry = teller.entries[task];
        return entry == null || entry.kind == NONE ? null : entry;
    }

    private int revise(int group, Sheet sheet, int task, Entry entry) {
        if (sheet.made >= MOST_VERSIONS) {
            throw new IllegalStateException("there were 16 versions");
        }
        if (passesQuota(group, entry.size())) {
            throw new IllegalStateException("the quota would be passed");
        }
        Version version = new Version(sheet.made, group, sheet.heads[group]);
        version.entries[task] = entry;
        sheet.versionRow[sheet.made] = version;
        sheet.made++;
        sheet.heads[group] = version;
        addUse(group, entry.size());
        return version.number;
    }

    private int mend(Sheet sheet, Version version, int task, int kind, int rule, int slack) {
        Version teller = tellerOf(version, task);
        Entry entry = taskOf(version, task);
        if (teller == null || entry == null || entry.kind != kind) {
            throw new IllegalStateException("the version has no such task of this kind");
        }
        int growth = entry.sizeWith(rule) - entry.size();
        if (passesQuota(teller.owner, growth)) {
            throw new IllegalStateException("the quota would be passed");
        }
        entry.rule = rule;
        entry.slack = slack;
        addUse(teller.owner, growth);
        return gradeAgain(sheet);
    }

    /** Runs the grader over all answers that were handed in, and returns how many due marks changed. */
    private int gradeAgain(Sheet sheet) {
        int changed = 0;
        for (int pupil = 0; pupil < PUPILS; pupil++) {
            Answer answer = sheet.answerRow[pupil];
            if (answer == null || !answer.handed) {
                continue;
            }
            int dueMark = grade(answer, false);
            if (dueMark != answer.dueMark) {
                changed++;
                answer.takeDueMark(dueMark, sheet.closed[classOf(pupil)]);
            }
            // The rule may hold other threes now, even where the due mark is the same.
            answer.findPrints();
        }
        return changed;
    }

    // ---- the grader

    private int grade(Answer answer, boolean anew) {
        int sum = 0;
        for (int task = 0; task < TASKS; task++) {
            Entry entry = taskOf(answer.version, task);
            Said part = answer.parts[task];
            if (entry != null && part != null) {
                sum += entry.earned(part, entry.kind == WORDS ? commonWords(entry.rule, part, anew) : 0);
            }
        }
        return sum;
    }

    private int commonWords(int rule, Said said, boolean anew) {
        return anew ? longestKept(rule, said) : longestCommon(rule, said);
    }

    private static int wordAt(int row, int place) {
        return row >>> (place * WORD_BITS) & MOST_WORD;
    }

    /** How many words a row has ahead of its first word of 0. */
    private static int rowLength(int row) {
        int length = 0;
        for (int rest = row; length < MOST_RULE_WORDS && (rest & MOST_WORD) != 0; rest >>>= WORD_BITS) {
            length++;
        }
        return length;
    }

    /** The length of the longest row that can be had from the rule and from what was said by leaving words out. */
    private int longestCommon(int rule, Said said) {
        int length = rowLength(rule);
        for (int first = 0; first <= length; first++) {
            commonLengths[first] = 0;
        }
        for (int place = 0; place < said.wordCount; place++) {
            int diagonal = 0;
            for (int first = 1; first <= length; first++) {
                int above = commonLengths[first];
                if (wordAt(rule, first - 1) == said.words[place]) {
                    commonLengths[first] = diagonal + 1;
                } else {
                    commonLengths[first] = Math.max(above, commonLengths[first - 1]);
                }
                diagonal = above;
            }
        }
        return commonLengths[length];
    }

    /** The same length, found by trying which words of the rule can be left out. */
    private static int longestKept(int rule, Said said) {
        int choices = 1 << rowLength(rule);
        int longest = 0;
        for (int kept = 0; kept < choices; kept++) {
            int length = Integer.bitCount(kept);
            if (length > longest && said.holdsInOrder(keepWords(rule, kept))) {
                longest = length;
            }
        }
        return longest;
    }

    /** The row of those words of the rule whose bits are in the set. */
    private static int keepWords(int rule, int kept) {
        int row = 0;
        int length = 0;
        for (int place = 0; place < MOST_RULE_WORDS; place++) {
            if ((kept >>> place & 1) != 0) {
                row |= wordAt(rule, place) << (length * WORD_BITS);
                length++;
            }
        }
        return row;
    }

    // ---- fingerprints

    private static int printOf(int first, int second, int third) {
        return (first << (2 * WORD_BITS)) + (second << WORD_BITS) + third;
    }

    private static boolean ruleHasPrint(int rule, int print) {
        int length = rowLength(rule);
        for (int place = 0; place + THREE <= length; place++) {
            if (printOf(wordAt(rule, place), wordAt(rule, place + 1), wordAt(rule, place + 2)) == print) {
                return true;
            }
        }
        return false;
    }

    private static int likenessBy(int common, int prints, int otherPrints) {
        int lesser = Math.min(prints, otherPrints);
        return lesser <= 0 ? 0 : 100 * common / lesser;
    }

    private static boolean isPairBy(int common, int prints, int otherPrints) {
        return common >= PAIR_PRINTS && likenessBy(common, prints, otherPrints) >= PAIR_LIKENESS;
    }

    /** Writes every three words of an answer that count into the pupil's row, each once, as they were said. */
    private void collectThrees(Answer answer, int pupil) {
        threeCounts[pupil] = 0;
        if (answer == null || !answer.isInIndex()) {
            return;
        }
        for (int task = 0; task < TASKS; task++) {
            Entry entry = taskOf(answer.version, task);
            Said part = answer.parts[task];
            if (entry == null || entry.kind != WORDS || part == null) {
                continue;
            }
            for (int place = 0; place + THREE <= part.wordCount; place++) {
                int print = part.printAt(place);
                if (!ruleHasPrint(entry.rule, print)) {
                    collectThree(pupil, print);
                }
            }
        }
    }

    private void collectThree(int pupil, int print) {
        int count = threeCounts[pupil];
        if (!isCollected(pupil, print) && count < MOST_PRINTS) {
            threeRows[pupil][count] = print;
            threeCounts[pupil] = count + 1;
        }
    }

    private boolean isCollected(int pupil, int print) {
        for (int place = 0; place < threeCounts[pupil]; place++) {
            if (threeRows[pupil][place] == print) {
                return true;
            }
        }
        return false;
    }

    private int commonThrees(int pupil, int other) {
        int common = 0;
        for (int place = 0; place < threeCounts[pupil]; place++) {
            if (isCollected(other, threeRows[pupil][place])) {
                common++;
            }
        }
        return common;
    }

    // ---- quotas

    private static boolean isClass(int group) {
        return group >= 0 && group < CLASSES;
    }

    /** Whether a class would use more than its quota and more than before. */
    private boolean passesQuota(int group, int growth) {
        return isClass(group) && growth > 0 && uses[group] + growth > quotas[group];
    }

    private void addUse(int group, int growth) {
        if (isClass(group)) {
            uses[group] += growth;
        }
    }

    /** Sets a task of a version, or drops it: then its kind is NONE. */
    private static final class Entry {
        final int kind;
        final int points;
        /** The value of a NUMBER, the set of signs of a CHOICE, the row of words of WORDS. */
        int rule;
        int slack;

        Entry(int kind, int points, int rule, int slack) {
            this.kind = kind;
            this.points = points;
            this.rule = rule;
            this.slack = slack;
        }

        int size() {
            return sizeWith(rule);
        }

        int sizeWith(int otherRule) {
            if (kind == NUMBER) {
                return 2;
            }
            return kind == WORDS ? rowLength(otherRule) : 1;
        }

        /** The points for what was said; for WORDS by the length of the longest common row. */
        int earned(Said said, int common) {
            if (kind == NUMBER) {
                return said.numberSaid && Math.abs(said.number - rule) <= slack ? points : 0;
            }
            if (kind == CHOICE) {
                return earnedByChoice(said.signs);
            }
            int length = rowLength(rule);
            return length == 0 ? 0 : points * common / length;
        }

        private int earnedByChoice(int signs) {
            int inRule = Integer.bitCount(rule);
            if (inRule == 0) {
                return signs == 0 ? points : 0;
            }
            int right = Integer.bitCount(signs & rule);
            int wrong = Integer.bitCount(signs & ~rule);
            return points * Math.max(right - wrong, 0) / inRule;
        }
    }

    private static final class Version {
        final int number;
        /** The class that has made it; NONE for the version 0. */
        final int owner;
        /** Its parent; null for the version 0. */
        Version origin;
        final Entry[] entries = new Entry[TASKS];

        Version(int number, int owner, Version origin) {
            this.number = number;
            this.owner = owner;
            this.origin = origin;
        }

        int size() {
            int sum = 0;
            for (int task = 0; task < TASKS; task++) {
                if (entries[task] != null) {
                    sum += entries[task].size();
                }
            }
            return sum;
        }

        /** What those entries take for whose tasks the child has none. */
        int sizeMissingIn(Version child) {
            int sum = 0;
            for (int task = 0; task < TASKS; task++) {
                if (entries[task] != null && child.entries[task] == null) {
                    sum += entries[task].size();
                }
            }
            return sum;
        }

        void inherit(Version folded) {
            for (int task = 0; task < TASKS; task++) {
                if (entries[task] == null) {
                    entries[task] = folded.entries[task];
                }
            }
            origin = folded.origin;
        }
    }

    private static final class Sheet {
        /** Null where a version was folded or is not yet made. */
        final Version[] versionRow = new Version[MOST_VERSIONS];
        /** How many versions were made, those that were folded counted. */
        int made = 1;
        final Version[] heads = new Version[CLASSES];
        final boolean[] closed = new boolean[CLASSES];
        final Answer[] answerRow = new Answer[PUPILS];

        Sheet() {
            Version first = new Version(0, NONE, null);
            versionRow[0] = first;
            for (int group = 0; group < CLASSES; group++) {
                heads[group] = first;
            }
        }

        boolean canFold(Version version) {
            return version.number != 0 && !isHead(version) && !isTied(version) && countChildren(version) <= 1;
        }

        private boolean isHead(Version version) {
            for (int group = 0; group < CLASSES; group++) {
                if (heads[group] == version) {
                    return true;
                }
            }
            return false;
        }

        private boolean isTied(Version version) {
            for (int pupil = 0; pupil < PUPILS; pupil++) {
                if (answerRow[pupil] != null && answerRow[pupil].version == version) {
                    return true;
                }
            }
            return false;
        }

        private int countChildren(Version version) {
            int children = 0;
            for (int number = 0; number < MOST_VERSIONS; number++) {
                if (versionRow[number] != null && versionRow[number].origin == version) {
                    children++;
                }
            }
            return children;
        }

        /** The first version that has this one as its parent, or null. */
        Version childOf(Version version) {
            for (int number = 0; number < MOST_VERSIONS; number++) {
                if (versionRow[number] != null && versionRow[number].origin == version) {
                    return versionRow[number];
                }
            }
            return null;
        }

        void remove(Version version) {
            if (version.number >= 0 && version.number < MOST_VERSIONS) {
                versionRow[version.number] = null;
            }
        }

        boolean arePair(int lower, int other) {
            Answer one = answerRow[lower];
            Answer two = answerRow[other];
            return one != null && two != null && isPairBy(one.commonPrints(two), one.printCount, two.printCount);
        }

        int sizeOfVersions(int group) {
            int sum = 0;
            for (int number = 0; number < MOST_VERSIONS; number++) {
                if (versionRow[number] != null && versionRow[number].owner == group) {
                    sum += versionRow[number].size();
                }
            }
            return sum;
        }

        int sizeOfAnswers(int group) {
            int sum = 0;
            for (int pupil = 0; pupil < PUPILS; pupil++) {
                if (answerRow[pupil] != null && classOf(pupil) == group) {
                    sum += answerRow[pupil].size();
                }
            }
            return sum;
        }
    }

    /** What was said for one task of an answer. */
    private static final class Said {
        boolean numberSaid = false;
        int number = 0;
        int signs = 0;
        final int[] words = new int[MOST_SAID_WORDS];
        int wordCount = 0;

        int size() {
            return (numberSaid ? 1 : 0) + sizeOfSigns(signs) + wordCount;
        }

        private static int sizeOfSigns(int signs) {
            return signs == 0 ? 0 : 1;
        }

        /** How much more it takes when this is said; below 0 if less. */
        int growthBy(int kind, int said) {
            if (kind == NUMBER) {
                return numberSaid ? 0 : 1;
            }
            if (kind == CHOICE) {
                return sizeOfSigns(signs ^ 1 << said) - sizeOfSigns(signs);
            }
            return 1;
        }

        boolean isFull(int kind) {
            return kind == WORDS && wordCount >= MOST_SAID_WORDS;
        }

        void add(int kind, int said) {
            if (kind == NUMBER) {
                numberSaid = true;
                number = said;
            } else if (kind == CHOICE) {
                signs ^= 1 << said;
            } else if (wordCount < MOST_SAID_WORDS) {
                words[wordCount] = said;
                wordCount++;
            }
        }

        /** Whether the words of the row were said in its order, with others between them or not. */
        boolean holdsInOrder(int row) {
            int rest = row;
            for (int place = 0; place < wordCount; place++) {
                if ((rest & MOST_WORD) == words[place]) {
                    rest >>>= WORD_BITS;
                }
            }
            return rest == 0;
        }

        int printAt(int place) {
            return printOf(words[place], words[place + 1], words[place + 2]);
        }
    }

    private static final class Answer {
        final Version version;
        final Said[] parts = new Said[TASKS];
        boolean handed = false;
        /** What counts; NONE until it is handed in. */
        int mark = NONE;
        /** The mark by the rules as they are now, kept from when it is handed in. */
        int dueMark = NONE;
        int mendsTold = 0;
        /** Its fingerprints by rising numbers; none while it is not in the index. */
        final int[] prints = new int[MOST_PRINTS];
        int printCount = 0;

        Answer(Version version) {
            this.version = version;
            for (int task = 0; task < TASKS; task++) {
                parts[task] = new Said();
            }
        }

        int size() {
            int sum = 0;
            for (int task = 0; task < TASKS; task++) {
                if (parts[task] != null) {
                    sum += parts[task].size();
                }
            }
            return sum;
        }

        boolean isInIndex() {
            return handed && mark > 0;
        }

        void takeDueMark(int newDueMark, boolean isClosed) {
            dueMark = newDueMark;
            if (isClosed) {
                mendsTold++;
            } else {
                mark = newDueMark;
            }
        }

        void findPrints() {
            printCount = 0;
            if (!isInIndex()) {
                return;
            }
            for (int task = 0; task < TASKS; task++) {
                Entry entry = taskOf(version, task);
                if (entry != null && entry.kind == WORDS && parts[task] != null) {
                    findPrintsOf(parts[task], entry.rule);
                }
            }
        }

        private void findPrintsOf(Said part, int rule) {
            for (int place = 0; place + THREE <= part.wordCount; place++) {
                int print = part.printAt(place);
                if (!ruleHasPrint(rule, print)) {
                    insertPrint(print);
                }
            }
        }

        private void insertPrint(int print) {
            int place = placeOf(print);
            boolean isThere = place < printCount && prints[place] == print;
            if (isThere || printCount >= MOST_PRINTS) {
                return;
            }
            for (int at = printCount; at > place; at--) {
                prints[at] = prints[at - 1];
            }
            prints[place] = print;
            printCount++;
        }

        /** The place of the first fingerprint that is not lower. */
        private int placeOf(int print) {
            int place = 0;
            while (place < printCount && prints[place] < print) {
                place++;
            }
            return place;
        }

        boolean hasPrint(int print) {
            int place = placeOf(print);
            return place < printCount && prints[place] == print;
        }

        int commonPrints(Answer other) {
            int common = 0;
            for (int place = 0; place < printCount; place++) {
                if (other.hasPrint(prints[place])) {
                    common++;
                }
            }
            return common;
        }
    }
}
