import java.lang.reflect.InvocationTargetException;
import java.lang.reflect.Method;
import java.util.ArrayList;
import java.util.Arrays;
import java.util.List;

/** Every call of the face that takes arguments, with arguments that are taken and the range of each one. */
final class CallTable {
    /** An argument: a value that is taken, its range, and what is thrown outside. */
    static final class Argument {
        int taken;
        int least;
        int most;
        Class<?> thrown;

        /** Values outside the range: next to both ends, the farthest, and such as a narrower type would bring back. */
        List<Integer> outside() {
            int[] tried = {
                least - 1, most + 1, Integer.MIN_VALUE, Integer.MAX_VALUE, -most - 1, -most - 2,
                least + 256, most + 256, least + 65536, most + 65536, least - 65536,
            };
            List<Integer> outside = new ArrayList<>();
            for (int value : tried) {
                if ((value < least || value > most) && !outside.contains(value)) {
                    outside.add(value);
                }
            }
            return outside;
        }
    }

    /** A call: the state that it needs, and what it answers there with the values that are taken. */
    static final class Row {
        String method;
        String state;
        String due;
        final List<Argument> arguments = new ArrayList<>();

        int[] taken() {
            int[] values = new int[arguments.size()];
            for (int place = 0; place < values.length; place++) {
                values[place] = arguments.get(place).taken;
            }
            return values;
        }

        int[] with(int place, int value) {
            int[] values = taken();
            values[place] = value;
            return values;
        }

        Vault made() {
            return stateOf(state);
        }

        String told(int[] values) {
            return method + Arrays.toString(values);
        }
    }

    // The method, the state, what it answers ("?" if that hangs on the argument), and then for each argument a value
    // that is taken; behind ":" its range, with b for IndexOutOfBoundsException outside and a for
    // IllegalArgumentException. An end of a range at which the call is refused for its state is left out here: see the
    // tests of mends, folds and places in EndsTest.
    private static final String[] ROWS = {
        "setNumber numbers 6 0:0..3b 0:0..3b 0:0..4b 1:1..10a 0:-1000..1000a 0:0..100a",
        "setChoice numbers 6 0:0..3b 0:0..3b 0:0..4b 1:1..10a 0:0..31a",
        "setWords numbers 6 0:0..3b 0:0..3b 0:0..4b 1:1..10a 1:1..1073741823a",
        "drop numbers 6 0:0..3b 0:0..3b 0:0..4b",
        "adopt numbers 5 0:0..3b 0:0..3b 0:0..5b",
        "fold adopted 2 0:0..3b 5",
        "versions numbers 6 0:0..3b",
        "head numbers 5 0:0..3b 0:0..3b",
        "parent numbers ? 0:0..3b 1:0..5b",
        "kindOf numbers ? 0:0..3b 5:0..5b 0:0..4b",
        "toldIn numbers ? 0:0..3b 5:0..5b 0:0..4b",
        "points numbers ? 0:0..3b 5:0..5b",
        "mendNumber numbers 0 0:0..3b 5 0:0..4b 0:-1000..1000a 0:0..100a",
        "mendChoice choices 0 0:0..3b 5 0:0..4b 0:0..31a",
        "mendWords words 0 0:0..3b 5 0:0..4b 1:1..1073741823a",
        "open numbers 5 0:0..11b 0:0..3b",
        "say opened-numbers 1 0:0..11b 0:0..3b 0:0..4b 0:-1000..1000a",
        "say opened-choices 1 0:0..11b 0:0..3b 0:0..4b 0:0..4a",
        "say opened-words 1 0:0..11b 0:0..3b 0:0..4b 1:1..31a",
        "hand opened-numbers 0 0:0..11b 0:0..3b",
        "close opened-numbers 0 0:0..3b 0:0..3b",
        "answer opened-numbers 1 0:0..11b 0:0..3b",
        "mark opened-numbers -1 0:0..11b 0:0..3b",
        "due opened-numbers 0 0:0..11b 0:0..3b",
        "told opened-numbers 0 0:0..11b 0:0..3b",
        "average opened-numbers -1 0:0..3b 0:0..3b",
        "fingerprints opened-words 0 0:0..11b 0:0..3b",
        "withPrint opened-words 0 0:0..3b 0:-2147483648..2147483647a",
        "likeness opened-words 0 0:0..3b 0:0..11b 0:0..11b",
        "pairs opened-words 0 0:0..3b",
        "pairAt paired 1 0:0..3b 0",
        "pairsAnew opened-words 0 0:0..3b",
        "setQuota numbers 100 0:0..3b 0:0..1000a",
        "used choices ? 0:0..3b",
        "usedAnew choices ? 0:0..3b",
    };

    private CallTable() {
    }

    static List<Row> rows() {
        List<Row> rows = new ArrayList<>();
        for (String text : ROWS) {
            String[] parts = text.split(" ");
            Row row = new Row();
            row.method = parts[0];
            row.state = parts[1];
            row.due = parts[2];
            for (int place = 3; place < parts.length; place++) {
                row.arguments.add(argumentOf(parts[place]));
            }
            rows.add(row);
        }
        return rows;
    }

    private static Argument argumentOf(String text) {
        Argument argument = new Argument();
        int colon = text.indexOf(':');
        if (colon < 0) {
            argument.taken = Integer.parseInt(text);
            return argument;
        }
        argument.taken = Integer.parseInt(text.substring(0, colon));
        int dots = text.indexOf("..");
        int end = text.length() - 1;
        argument.least = Integer.parseInt(text.substring(colon + 1, dots));
        argument.most = Integer.parseInt(text.substring(dots + 2, end));
        boolean bounds = text.charAt(end) == 'b';
        argument.thrown = bounds ? IndexOutOfBoundsException.class : IllegalArgumentException.class;
        return argument;
    }

    /** Makes a call by its name, of a Vault or of a PlainVault. */
    static int make(Object vault, String method, int... values) {
        Class<?>[] types = new Class<?>[values.length];
        Object[] boxes = new Object[values.length];
        for (int place = 0; place < values.length; place++) {
            types[place] = int.class;
            boxes[place] = values[place];
        }
        try {
            Method its = vault.getClass().getDeclaredMethod(method, types);
            return (Integer) its.invoke(vault, boxes);
        } catch (InvocationTargetException e) {
            if (e.getCause() instanceof RuntimeException) {
                throw (RuntimeException) e.getCause();
            }
            throw new AssertionError(e.getCause());
        } catch (ReflectiveOperationException e) {
            throw new AssertionError(e);
        }
    }

    /** What a call answers, or the name of what it throws. */
    static String answerOf(Object vault, String method, int... values) {
        try {
            return String.valueOf(make(vault, method, values));
        } catch (RuntimeException e) {
            return e.getClass().getName();
        }
    }

    /** Four sheets in the same state, so that each of their numbers is taken. */
    static Vault stateOf(String name) {
        Vault vault = Rows.withSheets(4);
        for (int sheet = 0; sheet < 4; sheet++) {
            setTasks(vault, sheet, name);
            for (int pupil = 0; pupil < 12 && name.startsWith("opened"); pupil++) {
                vault.open(pupil, sheet);
            }
            for (int pupil = 0; pupil < 2 && name.equals("paired"); pupil++) {
                Rows.handWords(vault, pupil, sheet, 0, 1, 2, 3, 4);
            }
            for (int group = 0; group < 4 && name.equals("adopted"); group++) {
                vault.adopt(group, sheet, 0);
            }
        }
        return vault;
    }

    /** The class 0 sets five tasks of one kind in the versions 1 to 5, and the other classes adopt the last one. */
    private static void setTasks(Vault vault, int sheet, String name) {
        for (int task = 0; task < 5; task++) {
            if (name.endsWith("choices")) {
                vault.setChoice(0, sheet, task, 2, 0b00011);
            } else if (name.endsWith("words") || name.equals("paired")) {
                vault.setWords(0, sheet, task, 2, 1);
            } else {
                vault.setNumber(0, sheet, task, 2, 500, 10);
            }
        }
        for (int group = 1; group < 4; group++) {
            vault.adopt(group, sheet, 5);
        }
    }
}
