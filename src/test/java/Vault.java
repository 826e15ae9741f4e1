import java.util.ArrayList;
import java.util.List;

/**
 * A SheetVault that counts its calls, as nothing is promised behind the 512th, and keeps those that changed something,
 * so that its state can be made again in a new object. Its methods are those of the face.
 */
final class Vault {
    static final int MOST_CALLS = 512;

    /** A call of the face. */
    interface Call {
        int on(Vault vault);
    }

    private final SheetVault its = new SheetVault();
    private final List<Call> changes = new ArrayList<>();
    private int calls = 0;

    /** A new object in the same state, made by the same changes. */
    Vault again() {
        Vault other = new Vault();
        for (Call change : changes) {
            change.on(other);
        }
        return other;
    }

    int changeCount() {
        return changes.size();
    }

    int callsLeft() {
        return MOST_CALLS - calls;
    }

    private void count() {
        calls++;
        if (calls > MOST_CALLS) {
            throw new AssertionError("a test makes more calls of one object than the document promises");
        }
    }

    private int keep(int answer, Call change) {
        changes.add(change);
        return answer;
    }

    // ---- the calls that change something

    int addSheet() {
        count();
        return keep(its.addSheet(), v -> v.addSheet());
    }

    int setNumber(int group, int sheet, int task, int points, int value, int slack) {
        count();
        int answer = its.setNumber(group, sheet, task, points, value, slack);
        return keep(answer, v -> v.setNumber(group, sheet, task, points, value, slack));
    }

    int setChoice(int group, int sheet, int task, int points, int signs) {
        count();
        int answer = its.setChoice(group, sheet, task, points, signs);
        return keep(answer, v -> v.setChoice(group, sheet, task, points, signs));
    }

    int setWords(int group, int sheet, int task, int points, int words) {
        count();
        int answer = its.setWords(group, sheet, task, points, words);
        return keep(answer, v -> v.setWords(group, sheet, task, points, words));
    }

    int drop(int group, int sheet, int task) {
        count();
        return keep(its.drop(group, sheet, task), v -> v.drop(group, sheet, task));
    }

    int adopt(int group, int sheet, int version) {
        count();
        return keep(its.adopt(group, sheet, version), v -> v.adopt(group, sheet, version));
    }

    int fold(int sheet, int version) {
        count();
        return keep(its.fold(sheet, version), v -> v.fold(sheet, version));
    }

    int mendNumber(int sheet, int version, int task, int value, int slack) {
        count();
        int answer = its.mendNumber(sheet, version, task, value, slack);
        return keep(answer, v -> v.mendNumber(sheet, version, task, value, slack));
    }

    int mendChoice(int sheet, int version, int task, int signs) {
        count();
        return keep(its.mendChoice(sheet, version, task, signs), v -> v.mendChoice(sheet, version, task, signs));
    }

    int mendWords(int sheet, int version, int task, int words) {
        count();
        return keep(its.mendWords(sheet, version, task, words), v -> v.mendWords(sheet, version, task, words));
    }

    int open(int pupil, int sheet) {
        count();
        return keep(its.open(pupil, sheet), v -> v.open(pupil, sheet));
    }

    int say(int pupil, int sheet, int task, int said) {
        count();
        return keep(its.say(pupil, sheet, task, said), v -> v.say(pupil, sheet, task, said));
    }

    int hand(int pupil, int sheet) {
        count();
        return keep(its.hand(pupil, sheet), v -> v.hand(pupil, sheet));
    }

    int close(int group, int sheet) {
        count();
        return keep(its.close(group, sheet), v -> v.close(group, sheet));
    }

    int setQuota(int group, int quota) {
        count();
        return keep(its.setQuota(group, quota), v -> v.setQuota(group, quota));
    }

    // ---- the calls that ask

    int sheets() {
        count();
        return its.sheets();
    }

    int versions(int sheet) {
        count();
        return its.versions(sheet);
    }

    int head(int group, int sheet) {
        count();
        return its.head(group, sheet);
    }

    int parent(int sheet, int version) {
        count();
        return its.parent(sheet, version);
    }

    int kindOf(int sheet, int version, int task) {
        count();
        return its.kindOf(sheet, version, task);
    }

    int toldIn(int sheet, int version, int task) {
        count();
        return its.toldIn(sheet, version, task);
    }

    int points(int sheet, int version) {
        count();
        return its.points(sheet, version);
    }

    int answer(int pupil, int sheet) {
        count();
        return its.answer(pupil, sheet);
    }

    int mark(int pupil, int sheet) {
        count();
        return its.mark(pupil, sheet);
    }

    int due(int pupil, int sheet) {
        count();
        return its.due(pupil, sheet);
    }

    int told(int pupil, int sheet) {
        count();
        return its.told(pupil, sheet);
    }

    int average(int group, int sheet) {
        count();
        return its.average(group, sheet);
    }

    int fingerprints(int pupil, int sheet) {
        count();
        return its.fingerprints(pupil, sheet);
    }

    int withPrint(int sheet, int print) {
        count();
        return its.withPrint(sheet, print);
    }

    int likeness(int sheet, int pupil, int other) {
        count();
        return its.likeness(sheet, pupil, other);
    }

    int pairs(int sheet) {
        count();
        return its.pairs(sheet);
    }

    int pairAt(int sheet, int place) {
        count();
        return its.pairAt(sheet, place);
    }

    int pairsAnew(int sheet) {
        count();
        return its.pairsAnew(sheet);
    }

    int used(int group) {
        count();
        return its.used(group);
    }

    int usedAnew(int group) {
        count();
        return its.usedAnew(group);
    }
}
