import java.util.ArrayList;
import java.util.HashSet;
import java.util.List;
import java.util.Map;
import java.util.Set;
import java.util.TreeMap;
import java.util.TreeSet;

/**
 * The document once more, written as plainly as can be and without any index, to compare the class with.
 * A call that would pass a quota is done, looked at, and undone.
 */
final class PlainVault {
    private static final int NONE = -1;
    private static final int NUMBER = 0;
    private static final int CHOICE = 1;
    private static final int WORDS = 2;

    private static final class Rule {
        int kind;
        int points;
        int value;
        int slack;
        Set<Integer> signs = new TreeSet<>();
        List<Integer> words = new ArrayList<>();

        Rule copy() {
            Rule copy = new Rule();
            copy.kind = kind;
            copy.points = points;
            copy.value = value;
            copy.slack = slack;
            copy.signs = new TreeSet<>(signs);
            copy.words = new ArrayList<>(words);
            return copy;
        }

        int takes() {
            return kind == NUMBER ? 2 : kind == WORDS ? words.size() : 1;
        }
    }

    private static final class Version {
        int owner;
        int parent;
        final Map<Integer, Rule> entries = new TreeMap<>();
    }

    private static final class Part {
        Integer number;
        final Set<Integer> signs = new TreeSet<>();
        final List<Integer> words = new ArrayList<>();

        int takes() {
            return (number == null ? 0 : 1) + (signs.isEmpty() ? 0 : 1) + words.size();
        }
    }

    private static final class Answer {
        int version;
        boolean handed;
        int mark;
        int told;
        final List<Part> parts = new ArrayList<>();

        int takes() {
            int sum = 0;
            for (Part part : parts) {
                sum += part.takes();
            }
            return sum;
        }
    }

    private static final class Sheet {
        final Map<Integer, Version> versions = new TreeMap<>();
        int made = 1;
        int[] heads = new int[4];
        boolean[] closed = new boolean[4];
        final Map<Integer, Answer> answers = new TreeMap<>();
    }

    private List<Sheet> sheets = new ArrayList<>();
    private int[] quotas = {100, 100, 100, 100};

    // ---- copies, to undo what passes a quota

    private static Sheet copy(Sheet sheet) {
        Sheet copy = new Sheet();
        copy.made = sheet.made;
        copy.heads = sheet.heads.clone();
        copy.closed = sheet.closed.clone();
        sheet.versions.forEach((number, version) -> {
            Version other = new Version();
            other.owner = version.owner;
            other.parent = version.parent;
            version.entries.forEach((task, rule) -> other.entries.put(task, rule.copy()));
            copy.versions.put(number, other);
        });
        sheet.answers.forEach((pupil, answer) -> {
            Answer other = new Answer();
            other.version = answer.version;
            other.handed = answer.handed;
            other.mark = answer.mark;
            other.told = answer.told;
            for (Part part : answer.parts) {
                Part like = new Part();
                like.number = part.number;
                like.signs.addAll(part.signs);
                like.words.addAll(part.words);
                other.parts.add(like);
            }
            copy.answers.put(pupil, other);
        });
        return copy;
    }

    private void withinQuota(Runnable change) {
        List<Sheet> saved = new ArrayList<>();
        for (Sheet sheet : sheets) {
            saved.add(copy(sheet));
        }
        int[] before = new int[4];
        for (int group = 0; group < 4; group++) {
            before[group] = takes(group);
        }
        change.run();
        for (int group = 0; group < 4; group++) {
            if (takes(group) > quotas[group] && takes(group) > before[group]) {
                sheets = saved;
                throw new IllegalStateException();
            }
        }
    }

    private int takes(int group) {
        int sum = 0;
        for (Sheet sheet : sheets) {
            for (Version version : sheet.versions.values()) {
                for (Rule rule : version.entries.values()) {
                    sum += version.owner == group ? rule.takes() : 0;
                }
            }
            for (Map.Entry<Integer, Answer> answer : sheet.answers.entrySet()) {
                sum += answer.getKey() / 3 == group ? answer.getValue().takes() : 0;
            }
        }
        return sum;
    }

    // ---- looking at arguments

    private static void index(boolean good) {
        if (!good) {
            throw new IndexOutOfBoundsException();
        }
    }

    private static void argument(boolean good) {
        if (!good) {
            throw new IllegalArgumentException();
        }
    }

    private static void state(boolean good) {
        if (!good) {
            throw new IllegalStateException();
        }
    }

    private static boolean in(int number, int least, int most) {
        return least <= number && number <= most;
    }

    private Sheet sheet(int number) {
        index(in(number, 0, sheets.size() - 1));
        return sheets.get(number);
    }

    private Version version(int sheet, int version) {
        index(sheet(sheet).versions.containsKey(version));
        return sheet(sheet).versions.get(version);
    }

    private static Set<Integer> signs(int bits) {
        Set<Integer> signs = new TreeSet<>();
        for (int sign = 0; sign < 5; sign++) {
            if ((bits >> sign & 1) == 1) {
                signs.add(sign);
            }
        }
        return signs;
    }

    /** The words of a row; null if it is none. */
    private static List<Integer> words(int row) {
        if (row <= 0 || row >= 1 << 30) {
            return null;
        }
        List<Integer> words = new ArrayList<>();
        for (int rest = row; rest > 0; rest /= 32) {
            words.add(rest % 32);
        }
        return words.contains(0) ? null : words;
    }

    // ---- versions

    private static Integer teller(Sheet sheet, int version, int task) {
        for (int at = version; at != NONE; at = sheet.versions.get(at).parent) {
            if (sheet.versions.get(at).entries.containsKey(task)) {
                return at;
            }
        }
        return null;
    }

    /** The rule of a task that a version has; null if it has none. */
    private static Rule rule(Sheet sheet, int version, int task) {
        Integer teller = teller(sheet, version, task);
        if (teller == null) {
            return null;
        }
        Rule rule = sheet.versions.get(teller).entries.get(task);
        return rule.kind == NONE ? null : rule;
    }

    int addSheet() {
        state(sheets.size() < 4);
        Sheet sheet = new Sheet();
        Version first = new Version();
        first.owner = NONE;
        first.parent = NONE;
        sheet.versions.put(0, first);
        sheets.add(sheet);
        return sheets.size() - 1;
    }

    private int revise(int group, int sheet, int task, Rule rule) {
        state(sheet(sheet).made < 16);
        int number = sheet(sheet).made;
        withinQuota(() -> {
            Version version = new Version();
            version.owner = group;
            version.parent = sheet(sheet).heads[group];
            version.entries.put(task, rule);
            sheet(sheet).versions.put(number, version);
            sheet(sheet).heads[group] = number;
            sheet(sheet).made++;
        });
        return number;
    }

    private void indexes(int group, int sheet, int task) {
        index(in(group, 0, 3));
        sheet(sheet);
        index(in(task, 0, 4));
    }

    int setNumber(int group, int sheet, int task, int points, int value, int slack) {
        indexes(group, sheet, task);
        argument(in(points, 1, 10) && in(value, -1000, 1000) && in(slack, 0, 100));
        Rule rule = new Rule();
        rule.kind = NUMBER;
        rule.points = points;
        rule.value = value;
        rule.slack = slack;
        return revise(group, sheet, task, rule);
    }

    int setChoice(int group, int sheet, int task, int points, int signs) {
        indexes(group, sheet, task);
        argument(in(points, 1, 10) && in(signs, 0, 31));
        Rule rule = new Rule();
        rule.kind = CHOICE;
        rule.points = points;
        rule.signs = signs(signs);
        return revise(group, sheet, task, rule);
    }

    int setWords(int group, int sheet, int task, int points, int words) {
        indexes(group, sheet, task);
        argument(in(points, 1, 10) && words(words) != null);
        Rule rule = new Rule();
        rule.kind = WORDS;
        rule.points = points;
        rule.words = words(words);
        return revise(group, sheet, task, rule);
    }

    int drop(int group, int sheet, int task) {
        indexes(group, sheet, task);
        state(rule(sheet(sheet), sheet(sheet).heads[group], task) != null);
        Rule rule = new Rule();
        rule.kind = NONE;
        return revise(group, sheet, task, rule);
    }

    int adopt(int group, int sheet, int version) {
        index(in(group, 0, 3));
        version(sheet, version);
        int before = sheet(sheet).heads[group];
        sheet(sheet).heads[group] = version;
        return before;
    }

    int fold(int sheet, int version) {
        version(sheet, version);
        Sheet its = sheet(sheet);
        state(version != 0);
        for (int head : its.heads) {
            state(head != version);
        }
        for (Answer answer : its.answers.values()) {
            state(answer.version != version);
        }
        List<Integer> children = new ArrayList<>();
        its.versions.forEach((number, other) -> {
            if (other.parent == version) {
                children.add(number);
            }
        });
        state(children.size() <= 1);
        int before = takes(0) + takes(1) + takes(2) + takes(3);
        withinQuota(() -> {
            Version folded = sheet(sheet).versions.remove(version);
            for (int child : children) {
                sheet(sheet).versions.get(child).parent = folded.parent;
                Map<Integer, Rule> entries = sheet(sheet).versions.get(child).entries;
                folded.entries.forEach((task, rule) -> entries.putIfAbsent(task, rule));
            }
        });
        return before - takes(0) - takes(1) - takes(2) - takes(3);
    }

    int sheets() {
        return sheets.size();
    }

    int versions(int sheet) {
        return sheet(sheet).versions.size();
    }

    int head(int group, int sheet) {
        index(in(group, 0, 3));
        return sheet(sheet).heads[group];
    }

    int parent(int sheet, int version) {
        return version(sheet, version).parent;
    }

    int kindOf(int sheet, int version, int task) {
        version(sheet, version);
        index(in(task, 0, 4));
        Rule rule = rule(sheet(sheet), version, task);
        return rule == null ? NONE : rule.kind;
    }

    int toldIn(int sheet, int version, int task) {
        version(sheet, version);
        index(in(task, 0, 4));
        Integer teller = teller(sheet(sheet), version, task);
        return teller == null ? NONE : teller;
    }

    int points(int sheet, int version) {
        version(sheet, version);
        int sum = 0;
        for (int task = 0; task < 5; task++) {
            Rule rule = rule(sheet(sheet), version, task);
            sum += rule == null ? 0 : rule.points;
        }
        return sum;
    }

    // ---- mends

    private interface Mend {
        void of(Rule rule);
    }

    private int mend(int sheet, int version, int task, int kind, Mend mend) {
        Rule rule = rule(sheet(sheet), version, task);
        state(rule != null && rule.kind == kind);
        Map<Integer, Integer> before = new TreeMap<>();
        sheet(sheet).answers.forEach((pupil, answer) -> before.put(pupil, dueOf(sheet(sheet), answer)));
        withinQuota(() -> mend.of(rule));
        int changed = 0;
        for (Map.Entry<Integer, Answer> each : sheet(sheet).answers.entrySet()) {
            Answer answer = each.getValue();
            int due = dueOf(sheet(sheet), answer);
            if (!answer.handed || due == before.get(each.getKey())) {
                continue;
            }
            changed++;
            if (sheet(sheet).closed[each.getKey() / 3]) {
                answer.told++;
            } else {
                answer.mark = due;
            }
        }
        return changed;
    }

    int mendNumber(int sheet, int version, int task, int value, int slack) {
        kindOf(sheet, version, task);
        argument(in(value, -1000, 1000) && in(slack, 0, 100));
        return mend(sheet, version, task, NUMBER, rule -> {
            rule.value = value;
            rule.slack = slack;
        });
    }

    int mendChoice(int sheet, int version, int task, int signs) {
        kindOf(sheet, version, task);
        argument(in(signs, 0, 31));
        return mend(sheet, version, task, CHOICE, rule -> rule.signs = signs(signs));
    }

    int mendWords(int sheet, int version, int task, int words) {
        kindOf(sheet, version, task);
        argument(words(words) != null);
        return mend(sheet, version, task, WORDS, rule -> rule.words = words(words));
    }

    // ---- answers

    private Answer answerOf(int pupil, int sheet) {
        index(in(pupil, 0, 11));
        return sheet(sheet).answers.get(pupil);
    }

    int open(int pupil, int sheet) {
        state(answerOf(pupil, sheet) == null && !sheet(sheet).closed[pupil / 3]);
        Answer answer = new Answer();
        answer.version = sheet(sheet).heads[pupil / 3];
        for (int task = 0; task < 5; task++) {
            answer.parts.add(new Part());
        }
        sheet(sheet).answers.put(pupil, answer);
        return answer.version;
    }

    int say(int pupil, int sheet, int task, int said) {
        Answer answer = answerOf(pupil, sheet);
        index(in(task, 0, 4));
        state(answer != null && !answer.handed);
        Rule rule = rule(sheet(sheet), answer.version, task);
        state(rule != null);
        argument(rule.kind == NUMBER ? in(said, -1000, 1000) : rule.kind == CHOICE ? in(said, 0, 4) : in(said, 1, 31));
        state(rule.kind != WORDS || answer.parts.get(task).words.size() < 12);
        withinQuota(() -> {
            Part part = answer.parts.get(task);
            if (rule.kind == NUMBER) {
                part.number = said;
            } else if (rule.kind == WORDS) {
                part.words.add(said);
            } else if (!part.signs.remove(said)) {
                part.signs.add(said);
            }
        });
        return answer.takes();
    }

    int hand(int pupil, int sheet) {
        Answer answer = answerOf(pupil, sheet);
        state(answer != null && !answer.handed);
        answer.handed = true;
        answer.mark = dueOf(sheet(sheet), answer);
        return answer.mark;
    }

    int close(int group, int sheet) {
        index(in(group, 0, 3));
        state(!sheet(sheet).closed[group]);
        sheet(sheet).closed[group] = true;
        sheet(sheet).answers.entrySet().removeIf(each -> each.getKey() / 3 == group && !each.getValue().handed);
        int handed = 0;
        for (int pupil : sheet(sheet).answers.keySet()) {
            handed += pupil / 3 == group ? 1 : 0;
        }
        return handed;
    }

    int answer(int pupil, int sheet) {
        Answer answer = answerOf(pupil, sheet);
        return answer == null ? 0 : answer.handed ? 2 : 1;
    }

    int mark(int pupil, int sheet) {
        Answer answer = answerOf(pupil, sheet);
        return answer == null || !answer.handed ? NONE : answer.mark;
    }

    int due(int pupil, int sheet) {
        Answer answer = answerOf(pupil, sheet);
        return answer == null ? NONE : dueOf(sheet(sheet), answer);
    }

    int told(int pupil, int sheet) {
        Answer answer = answerOf(pupil, sheet);
        return answer == null ? 0 : answer.told;
    }

    int average(int group, int sheet) {
        index(in(group, 0, 3));
        int sum = 0;
        int count = 0;
        for (Map.Entry<Integer, Answer> each : sheet(sheet).answers.entrySet()) {
            if (each.getKey() / 3 == group && each.getValue().handed) {
                sum += each.getValue().mark;
                count++;
            }
        }
        return count == 0 ? NONE : sum * 100 / count;
    }

    private static int dueOf(Sheet sheet, Answer answer) {
        int sum = 0;
        for (int task = 0; task < 5; task++) {
            Rule rule = rule(sheet, answer.version, task);
            if (rule != null) {
                sum += earned(rule, answer.parts.get(task));
            }
        }
        return sum;
    }

    private static int earned(Rule rule, Part part) {
        if (rule.kind == NUMBER) {
            boolean near = part.number != null && in(part.number, rule.value - rule.slack, rule.value + rule.slack);
            return near ? rule.points : 0;
        }
        if (rule.kind == WORDS) {
            return rule.points * longest(rule.words, part.words) / rule.words.size();
        }
        if (rule.signs.isEmpty()) {
            return part.signs.isEmpty() ? rule.points : 0;
        }
        int balance = 0;
        for (int sign : part.signs) {
            balance += rule.signs.contains(sign) ? 1 : -1;
        }
        return balance < 0 ? 0 : rule.points * balance / rule.signs.size();
    }

    private static int longest(List<Integer> one, List<Integer> two) {
        int[][] lengths = new int[one.size() + 1][two.size() + 1];
        for (int i = 1; i <= one.size(); i++) {
            for (int j = 1; j <= two.size(); j++) {
                int without = Math.max(lengths[i - 1][j], lengths[i][j - 1]);
                boolean same = one.get(i - 1).equals(two.get(j - 1));
                lengths[i][j] = same ? Math.max(without, lengths[i - 1][j - 1] + 1) : without;
            }
        }
        return lengths[one.size()][two.size()];
    }

    // ---- the index

    private static Set<Integer> threes(List<Integer> words) {
        Set<Integer> threes = new HashSet<>();
        for (int place = 2; place < words.size(); place++) {
            threes.add(1024 * words.get(place - 2) + 32 * words.get(place - 1) + words.get(place));
        }
        return threes;
    }

    private Set<Integer> prints(int pupil, int sheet) {
        Set<Integer> prints = new HashSet<>();
        Answer answer = answerOf(pupil, sheet);
        if (answer == null || !answer.handed || answer.mark <= 0) {
            return prints;
        }
        for (int task = 0; task < 5; task++) {
            Rule rule = rule(sheet(sheet), answer.version, task);
            if (rule != null && rule.kind == WORDS) {
                Set<Integer> own = threes(answer.parts.get(task).words);
                own.removeAll(threes(rule.words));
                prints.addAll(own);
            }
        }
        return prints;
    }

    private Set<Integer> common(int sheet, int pupil, int other) {
        Set<Integer> common = new HashSet<>(prints(pupil, sheet));
        common.retainAll(prints(other, sheet));
        return common;
    }

    int fingerprints(int pupil, int sheet) {
        return prints(pupil, sheet).size();
    }

    int withPrint(int sheet, int print) {
        int pupils = 0;
        for (int pupil = 0; pupil < 12; pupil++) {
            pupils += prints(pupil, sheet).contains(print) ? 1 << pupil : 0;
        }
        return pupils;
    }

    int likeness(int sheet, int pupil, int other) {
        int lesser = Math.min(prints(pupil, sheet).size(), prints(other, sheet).size());
        return lesser == 0 || pupil == other ? 0 : 100 * common(sheet, pupil, other).size() / lesser;
    }

    private List<Integer> pairsOf(int sheet) {
        List<Integer> pairs = new ArrayList<>();
        for (int lower = 0; lower < 12; lower++) {
            for (int other = lower + 1; other < 12; other++) {
                if (common(sheet, lower, other).size() >= 2 && likeness(sheet, lower, other) >= 60) {
                    pairs.add(100 * lower + other);
                }
            }
        }
        return pairs;
    }

    int pairs(int sheet) {
        return pairsOf(sheet).size();
    }

    int pairAt(int sheet, int place) {
        index(in(place, 0, pairs(sheet) - 1));
        return pairsOf(sheet).get(place);
    }

    int pairsAnew(int sheet) {
        return pairs(sheet);
    }

    // ---- storage

    int setQuota(int group, int quota) {
        index(in(group, 0, 3));
        argument(in(quota, 0, 1000));
        int before = quotas[group];
        quotas[group] = quota;
        return before;
    }

    int used(int group) {
        index(in(group, 0, 3));
        return takes(group);
    }

    int usedAnew(int group) {
        return used(group);
    }
}
