/** Counts the checks of one test and tells those that fail. */
final class Checks {
    /** A call of the face. */
    interface Call {
        int on(SheetVault vault);
    }

    int passed = 0;
    int failed = 0;

    void is(String what, int got, int want) {
        count(got == want, what + " answered " + got + ", due is " + want);
    }

    void holds(String what, boolean is) {
        count(is, what);
    }

    /** An IndexOutOfBoundsException is due, and nothing changes. */
    void index(SheetVault vault, String what, Call call) {
        fails(vault, what, call, IndexOutOfBoundsException.class);
    }

    /** An IllegalArgumentException is due, and nothing changes. */
    void argument(SheetVault vault, String what, Call call) {
        fails(vault, what, call, IllegalArgumentException.class);
    }

    /** An IllegalStateException is due, and nothing changes. */
    void state(SheetVault vault, String what, Call call) {
        fails(vault, what, call, IllegalStateException.class);
    }

    private void fails(SheetVault vault, String what, Call call, Class<?> due) {
        String before = Picture.of(vault);
        Class<?> thrown = null;
        try {
            call.on(vault);
        } catch (RuntimeException e) {
            thrown = e.getClass();
        }
        count(thrown == due, what + " threw " + thrown + ", due is " + due);
        count(before.equals(Picture.of(vault)), what + " threw, but changed something");
    }

    private void count(boolean good, String message) {
        if (good) {
            passed++;
        } else {
            failed++;
            System.out.println("FAILED " + message);
        }
    }
}
