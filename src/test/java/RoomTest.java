import com.sun.management.ThreadMXBean;
import java.lang.management.ManagementFactory;

/** A run of 512 calls makes no more objects than the room of one run has, whatever each of them takes. */
public final class RoomTest {
    // Of some 7.3 million fields and elements, each of at least a byte; of objects, each of at least 16, it is less
    // than the 600,000 that there may be.
    private static final long MOST_BYTES = 7_300_000;

    public static void main(String[] args) {
        Checks checks = new Checks();
        ThreadMXBean threads = (ThreadMXBean) ManagementFactory.getThreadMXBean();
        long thread = Thread.currentThread().getId();
        aRun();
        long before = threads.getThreadAllocatedBytes(thread);
        aRun();
        long bytes = threads.getThreadAllocatedBytes(thread) - before;
        checks.holds("a run of 512 calls took " + bytes + " bytes", bytes <= MOST_BYTES);
        Rows.end(checks);
    }

    /** 512 calls: all sheets, versions and answers, and then the dearest calls. */
    private static void aRun() {
        SheetVault vault = new SheetVault();
        for (int sheet = 0; sheet < 4; sheet++) {
            vault.addSheet();
        }
        for (int group = 0; group < 4; group++) {
            vault.setQuota(group, 1000);
        }
        for (int call = 0; call < 60; call++) {
            vault.setWords(call % 4, call / 15, call % 5, 10, Rows.row(1, 2));
        }
        for (int call = 0; call < 48; call++) {
            vault.open(call / 4, call % 4);
        }
        for (int call = 0; call < 96; call++) {
            int pupil = call / 8;
            // The first version that each class has made sets the task of its own number.
            vault.say(pupil, 0, pupil / 3, 1 + call % 3);
        }
        for (int pupil = 0; pupil < 12; pupil++) {
            vault.hand(pupil, 0);
        }
        for (int call = 0; call < 72; call++) {
            vault.pairsAnew(0);
            vault.pairs(0);
            vault.usedAnew(0);
            vault.mendWords(0, 1, 0, Rows.row(1, 2 + call % 2));
        }
    }
}
