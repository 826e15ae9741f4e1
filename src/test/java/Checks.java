import java.util.List;

/** Counts the checks of one test and tells those that fail. */
final class Checks {
    int passed = 0;
    int failed = 0;
    private Vault drawn = null;
    private int drawnChanges = 0;
    private String picture = "";

    void is(String what, int got, int want) {
        count(got == want, what + " answered " + got + ", due is " + want);
    }

    void holds(String what, boolean is) {
        count(is, what);
    }

    /** An IndexOutOfBoundsException is due, and nothing changes. */
    void index(Vault vault, String what, Vault.Call call) {
        fails(vault, what, IndexOutOfBoundsException.class, call);
    }

    /** An IllegalArgumentException is due, and nothing changes. */
    void argument(Vault vault, String what, Vault.Call call) {
        fails(vault, what, IllegalArgumentException.class, call);
    }

    /** An IllegalStateException is due, and nothing changes. */
    void state(Vault vault, String what, Vault.Call call) {
        fails(vault, what, IllegalStateException.class, call);
    }

    /** This exception is due, and nothing changes. */
    void fails(Vault vault, String what, Class<?> due, Vault.Call call) {
        String before = pictureOf(vault);
        Class<?> thrown = null;
        try {
            call.on(vault);
        } catch (RuntimeException e) {
            thrown = e.getClass();
        }
        count(thrown == due, what + " threw " + thrown + ", due is " + due);
        boolean same = thrown == null || before.equals(Picture.after(vault, List.of(call)));
        count(same, what + " threw, but changed something");
    }

    /** The picture is kept for the next refused call, as long as nothing changes. */
    private String pictureOf(Vault vault) {
        if (drawn != vault || drawnChanges != vault.changeCount()) {
            drawn = vault;
            drawnChanges = vault.changeCount();
            picture = Picture.of(vault, 1);
        }
        return picture;
    }

    private void count(boolean good, String message) {
        if (good) {
            passed++;
        } else {
            failed++;
            System.out.println("FAILED " + message);
        }
    }
}
