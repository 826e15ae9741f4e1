import java.util.List;

/**
 * All that can be found out of the state of an object, as one text, to see whether two states are the same: what it
 * answers, and what further calls do with it. Every question goes to a new object in that state, so that no object
 * gets more than the 512 calls that the document promises.
 */
final class Picture {
    private static final int VERSIONS = 16;
    private static final int WORDS = 3;

    private final Vault model;
    private final List<Vault.Call> refused;
    private final int roomLeft;
    private final StringBuilder text = new StringBuilder();
    private Vault asked;
    private int room;

    /** The room that is left is the same with and without the refused calls, so that both pictures ask the same. */
    private Picture(Vault model, List<Vault.Call> refused, int reserved) {
        this.model = model;
        this.refused = refused;
        this.roomLeft = Vault.MOST_CALLS - model.changeCount() - reserved;
    }

    /** The picture that a picture with so many refused calls is to be the same as. */
    static String of(Vault vault, int reserved) {
        return new Picture(vault, List.of(), reserved).draw();
    }

    /** The picture when these calls were made too, which throw. */
    static String after(Vault vault, List<Vault.Call> refused) {
        return new Picture(vault, refused, refused.size()).draw();
    }

    private String draw() {
        begin("what it answers");
        int sheets = ask(v -> v.sheets());
        for (int sheet = 0; sheet < sheets; sheet++) {
            addVersions(sheet);
            addAnswers(sheet);
            addIndex(sheet);
        }
        for (int group = 0; group < 4; group++) {
            int its = group;
            ask(v -> v.used(its));
            ask(v -> v.usedAnew(its));
        }
        addNextVersions(sheets);
        addCloses(sheets);
        for (int sheet = 0; sheet < sheets; sheet++) {
            addNextAnswers(sheet);
            addNextOpens(sheet);
        }
        return text.toString();
    }

    /** Goes on with a new object in the same state. */
    private void begin(String what) {
        text.append('\n').append(what);
        renew();
    }

    private void renew() {
        asked = model.again();
        room = roomLeft;
        for (Vault.Call call : refused) {
            tryOut(call);
        }
    }

    private int tryOut(Vault.Call call) {
        try {
            return call.on(asked);
        } catch (RuntimeException e) {
            return Integer.MIN_VALUE + e.getClass().getSimpleName().length();
        }
    }

    /** Asks what changes nothing, of another new object when this one has had all its calls. */
    private int ask(Vault.Call call) {
        if (room <= 0) {
            renew();
        }
        return change(call);
    }

    /** Makes a call that changes something, as long as the object may have one. */
    private int change(Vault.Call call) {
        if (room <= 0) {
            return 0;
        }
        room--;
        int answer = tryOut(call);
        text.append(' ').append(answer);
        return answer;
    }

    private void addVersions(int sheet) {
        text.append("\nsheet ").append(sheet).append(" versions");
        ask(v -> v.versions(sheet));
        for (int number = 0; number < VERSIONS; number++) {
            int version = number;
            text.append("\n version ").append(version);
            if (ask(v -> v.parent(sheet, version)) < SheetVault.NONE) {
                continue;
            }
            ask(v -> v.points(sheet, version));
            for (int each = 0; each < 5; each++) {
                int task = each;
                ask(v -> v.kindOf(sheet, version, task));
                ask(v -> v.toldIn(sheet, version, task));
            }
        }
        text.append("\n heads, averages");
        for (int each = 0; each < 4; each++) {
            int group = each;
            ask(v -> v.head(group, sheet));
            ask(v -> v.average(group, sheet));
        }
    }

    private void addAnswers(int sheet) {
        for (int each = 0; each < 12; each++) {
            int pupil = each;
            text.append("\n pupil ").append(pupil);
            ask(v -> v.answer(pupil, sheet));
            ask(v -> v.mark(pupil, sheet));
            ask(v -> v.due(pupil, sheet));
            ask(v -> v.told(pupil, sheet));
            ask(v -> v.fingerprints(pupil, sheet));
        }
    }

    private void addIndex(int sheet) {
        text.append("\n likenesses");
        for (int each = 0; each < 12; each++) {
            for (int next = each + 1; next < 12; next++) {
                int pupil = each;
                int other = next;
                ask(v -> v.likeness(sheet, pupil, other));
            }
        }
        text.append("\n pairs");
        int pairs = ask(v -> v.pairs(sheet));
        ask(v -> v.pairsAnew(sheet));
        for (int each = 0; each < pairs; each++) {
            int place = each;
            ask(v -> v.pairAt(sheet, place));
        }
        text.append("\n prints");
        for (int each = 0; each < WORDS * WORDS * WORDS; each++) {
            int print = Rows.print(1 + each / 9, 1 + each / 3 % 3, 1 + each % 3);
            ask(v -> v.withPrint(sheet, print));
        }
    }

    /** The quotas, and the numbers and the entries of the versions that would be made next. */
    private void addNextVersions(int sheets) {
        begin("next versions");
        liftQuotas();
        for (int each = 0; each < 4 * sheets; each++) {
            int group = each % 4;
            int sheet = each / 4;
            change(v -> v.setChoice(group, sheet, 4, 1, 1));
        }
        for (int group = 0; group < 4; group++) {
            int its = group;
            change(v -> v.used(its));
            change(v -> v.usedAnew(its));
        }
    }

    private void liftQuotas() {
        for (int each = 0; each < 4; each++) {
            int group = each;
            change(v -> v.setQuota(group, 1000));
        }
    }

    /** Which sheets are closed for which classes. */
    private void addCloses(int sheets) {
        begin("closes");
        for (int each = 0; each < 4 * sheets; each++) {
            int group = each % 4;
            int sheet = each / 4;
            change(v -> v.close(group, sheet));
        }
    }

    /** What more can be said in the answers, what they take, and what marks and fingerprints they get. */
    private void addNextAnswers(int sheet) {
        begin("next answers");
        liftQuotas();
        for (int each = 0; each < 12; each++) {
            int pupil = each;
            text.append("\n pupil ").append(pupil);
            for (int next = 0; next < 5; next++) {
                int task = next;
                change(v -> v.say(pupil, sheet, task, 1));
                change(v -> v.due(pupil, sheet));
            }
            change(v -> v.hand(pupil, sheet));
            change(v -> v.fingerprints(pupil, sheet));
        }
        change(v -> v.pairs(sheet));
        change(v -> v.pairsAnew(sheet));
    }

    /** Who can open the sheet, and what the tasks give then. */
    private void addNextOpens(int sheet) {
        begin("next opens");
        liftQuotas();
        for (int each = 0; each < 12; each++) {
            int pupil = each;
            text.append("\n pupil ").append(pupil);
            change(v -> v.open(pupil, sheet));
            for (int next = 0; next < 5; next++) {
                int task = next;
                int said = 1 + (pupil + task) % 3;
                change(v -> v.say(pupil, sheet, task, said));
            }
            change(v -> v.due(pupil, sheet));
        }
    }
}
