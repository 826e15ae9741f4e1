import java.lang.reflect.Constructor;
import java.lang.reflect.Field;
import java.lang.reflect.Method;
import java.lang.reflect.Modifier;
import java.nio.file.Files;
import java.nio.file.Path;
import java.util.Set;
import java.util.TreeSet;
import java.util.regex.Matcher;
import java.util.regex.Pattern;

/** The public face: every constant, constructor and method of the document, and nothing else that can be seen. */
public final class FaceTest {
    private static final Path DOCUMENT = Path.of("../shared/DOC.md");
    private static final Path SOURCE = Path.of("src/main/java/SheetVault.java");
    /** Name, how many ints it takes, and the exceptions: b bounds, a argument, s state. */
    private static final String[] METHODS = {
        "addSheet 0 s", "setNumber 6 bas", "setChoice 5 bas", "setWords 5 bas", "drop 3 bs", "adopt 3 b", "fold 2 bs",
        "sheets 0 -", "versions 1 b", "head 2 b", "parent 2 b", "kindOf 3 b", "toldIn 3 b", "points 2 b",
        "mendNumber 5 bas", "mendChoice 4 bas", "mendWords 4 bas", "open 2 bs", "say 4 bas", "hand 2 bs",
        "close 2 bs", "answer 2 b", "mark 2 b", "due 2 b", "told 2 b", "average 2 b", "fingerprints 2 b",
        "withPrint 2 b", "likeness 3 b", "pairs 1 b", "pairAt 2 b", "pairsAnew 1 b", "setQuota 2 ba", "used 1 b",
        "usedAnew 1 b",
    };
    private static final String[] CONSTANTS = {
        "NONE -1", "NUMBER 0", "CHOICE 1", "WORDS 2", "NO_ANSWER 0", "OPEN 1", "HANDED 2",
    };

    public static void main(String[] args) throws Exception {
        Checks checks = new Checks();
        methods(checks);
        constants(checks);
        String document = Files.readString(DOCUMENT);
        String source = Files.readString(SOURCE).replaceAll("\\s+", " ");
        code(checks, document, source);
        headings(checks, document, source);
        int type = SheetVault.class.getModifiers();
        checks.holds("the class is public and final", Modifier.isPublic(type) && Modifier.isFinal(type));
        Constructor<?>[] constructors = SheetVault.class.getDeclaredConstructors();
        boolean one = constructors.length == 1 && constructors[0].getParameterCount() == 0;
        checks.holds("one public constructor", one && Modifier.isPublic(constructors[0].getModifiers()));
        for (Class<?> inside : SheetVault.class.getDeclaredClasses()) {
            int its = inside.getModifiers();
            checks.holds("a class inside is hidden", !Modifier.isPublic(its) && !Modifier.isProtected(its));
        }
        Rows.end(checks);
    }

    private static void methods(Checks checks) {
        Set<String> due = new TreeSet<>(Set.of(METHODS));
        Set<String> seen = new TreeSet<>();
        Set<String> names = new TreeSet<>();
        for (String method : METHODS) {
            names.add(method.substring(0, method.indexOf(' ')));
        }
        for (Method method : SheetVault.class.getDeclaredMethods()) {
            if (Modifier.isPrivate(method.getModifiers())) {
                checks.holds("a hidden method has a public name: " + method, !names.contains(method.getName()));
                continue;
            }
            checks.is("modifiers of " + method, method.getModifiers(), Modifier.PUBLIC);
            checks.holds("it answers an int: " + method, method.getReturnType() == int.class);
            seen.add(faceOf(checks, method));
        }
        checks.holds("the public methods are " + seen + ", due are " + due, seen.equals(due));
        for (Class<?> inside : SheetVault.class.getDeclaredClasses()) {
            for (Method method : inside.getDeclaredMethods()) {
                boolean its = Modifier.isPrivate(method.getModifiers()) && names.contains(method.getName());
                checks.holds("a hidden method inside has a public name: " + method, !its);
            }
        }
    }

    private static String faceOf(Checks checks, Method method) {
        for (Class<?> type : method.getParameterTypes()) {
            checks.holds("it takes ints: " + method, type == int.class);
        }
        StringBuilder thrown = new StringBuilder();
        for (Class<?> type : method.getExceptionTypes()) {
            thrown.append(type == IndexOutOfBoundsException.class ? "b" : "");
            thrown.append(type == IllegalArgumentException.class ? "a" : "");
            thrown.append(type == IllegalStateException.class ? "s" : "");
        }
        String exceptions = thrown.length() == 0 ? "-" : thrown.toString();
        return method.getName() + " " + method.getParameterCount() + " " + exceptions;
    }

    private static void constants(Checks checks) throws Exception {
        Set<String> due = new TreeSet<>(Set.of(CONSTANTS));
        Set<String> seen = new TreeSet<>();
        for (Field field : SheetVault.class.getDeclaredFields()) {
            int its = field.getModifiers();
            if (Modifier.isStatic(its)) {
                checks.holds("a static field is final: " + field, Modifier.isFinal(its));
            }
            if (!Modifier.isPrivate(its)) {
                checks.is("modifiers of " + field, its, Modifier.PUBLIC | Modifier.STATIC | Modifier.FINAL);
                checks.holds("a constant is an int: " + field, field.getType() == int.class);
                seen.add(field.getName() + " " + field.getInt(null));
            }
        }
        checks.holds("the constants are " + seen + ", due are " + due, seen.equals(due));
    }

    /** The code of the document stands in the class: that of the face in its order, and that of each promise. */
    private static void code(Checks checks, String document, String source) {
        Matcher block = Pattern.compile("(?s)```java(.*?)```").matcher(document);
        checks.holds("the document tells the face", block.find());
        int place = 0;
        int found = 0;
        for (String line : block.group(1).split("\n")) {
            String its = line.strip().replaceAll(" \\{$|;$", "");
            if (its.isEmpty() || its.equals("}")) {
                continue;
            }
            int next = source.indexOf(its + (line.contains("=") ? ";" : " {"), place);
            checks.holds("it is not in the class, or not in its place: " + its, next >= 0);
            place = Math.max(place, next);
            found++;
        }
        checks.is("lines of the face", found, 1 + 3 + 1 + METHODS.length);
        Matcher promise = Pattern.compile("(?m)^## Promise \\d+: .*\\s+`([^`]*)`:").matcher(document);
        int promises = 0;
        while (promise.find()) {
            checks.holds("it is not in the class: " + promise.group(1),
                    source.contains("public " + promise.group(1) + " {"));
            promises++;
        }
        checks.is("code of promises", promises, 1 + METHODS.length);
    }

    /** "Ahead of the calls .. the interface says ..": so it does, once, and those calls stand behind it in order. */
    private static void headings(Checks checks, String document, String source) {
        Matcher heading = Pattern.compile("(?m)^Ahead of the calls (.*) the interface says: (---- .*)\\.$")
                .matcher(document);
        int calls = 0;
        while (heading.find()) {
            String[] parts = source.split(Pattern.quote("// " + heading.group(2) + " "), -1);
            checks.is("how often it says " + heading.group(2), parts.length - 1, 1);
            String behind = parts[parts.length - 1].split("// ---- ")[0];
            StringBuilder names = new StringBuilder();
            Matcher method = Pattern.compile("public \\w+ (\\w+)\\(").matcher(behind);
            while (method.find()) {
                names.append(names.length() == 0 ? "" : ", ").append('`').append(method.group(1)).append('`');
                calls++;
            }
            checks.holds("behind " + heading.group(2) + " stand " + names, names.toString().equals(heading.group(1)));
        }
        checks.is("calls behind headings", calls, METHODS.length);
    }
}
