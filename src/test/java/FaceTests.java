import java.io.IOException;
import java.lang.reflect.Constructor;
import java.lang.reflect.Field;
import java.lang.reflect.Method;
import java.lang.reflect.Modifier;
import java.nio.file.Files;
import java.nio.file.Path;
import java.util.Arrays;
import java.util.Random;
import java.util.Set;
import java.util.TreeSet;
import java.util.regex.Matcher;
import java.util.regex.Pattern;

/** The public face of the document, and those rules of LANGUAGE.md that can be seen from outside. */
public final class FaceTests {
    private static final Path SOURCE = Path.of("src/main/java/FingerOverlay.java");
    private static final Set<String> METHODS = new TreeSet<>(Arrays.asList(
            "boolean create(int)", "boolean join(int, int)", "boolean stabilise(int)", "boolean fix(int, int)",
            "boolean put(int, int, int)", "boolean get(int, int)", "int deliver(int)", "int pump(int)",
            "int flying()", "int message(int)", "int successor(int)", "int predecessor(int)",
            "int finger(int, int)", "long entry(int, int)", "int entries(int)", "long answer(int)",
            "int hops(int)", "int owner(int)", "int wrong()", "int misplaced()"));
    private static final Set<String> CONSTANTS = new TreeSet<>(Arrays.asList("int NONE", "long ABSENT", "long NOTHING"));

    private static int failures = 0;

    public static void main(String[] args) throws IOException {
        face();
        constants();
        nestedClasses();
        words();
        nothingThrows();
        System.out.println(failures == 0 ? "the face is the document's" : failures + " checks failed");
        if (failures != 0) {
            System.exit(1);
        }
    }

    private static void due(String what, Object got, Object want) {
        if (!got.equals(want)) {
            failures++;
            System.out.println(what + ": " + got + ", due is " + want);
        }
    }

    private static void face() {
        Class<?> c = FingerOverlay.class;
        due("class", Modifier.toString(c.getModifiers()), "public final");
        Set<String> open = new TreeSet<>();
        Set<String> openNames = new TreeSet<>();
        for (Method m : c.getDeclaredMethods()) {
            if (!Modifier.isPrivate(m.getModifiers())) {
                due(m.getName(), Modifier.toString(m.getModifiers()), "public");
                String parameters = Arrays.toString(m.getParameterTypes());
                open.add(m.getReturnType() + " " + m.getName() + "(" + parameters.substring(1, parameters.length() - 1) + ")");
                openNames.add(m.getName());
            }
        }
        due("methods", open, METHODS);
        for (Method m : c.getDeclaredMethods()) {
            if (Modifier.isPrivate(m.getModifiers()) && openNames.contains(m.getName())) {
                due("private method", m.getName(), "another name than a public one");
            }
            due(m.getName() + " has at most seven parameters", m.getParameterCount() <= 7, true);
        }
        Constructor<?>[] constructors = c.getDeclaredConstructors();
        due("constructors", constructors.length, 1);
        due("constructor", constructors[0].toString(), "public FingerOverlay()");
    }

    private static void constants() {
        Set<String> open = new TreeSet<>();
        for (Field f : FingerOverlay.class.getDeclaredFields()) {
            int modifiers = f.getModifiers();
            if (!Modifier.isPrivate(modifiers)) {
                due(f.getName(), Modifier.toString(modifiers), "public static final");
                open.add(f.getType() + " " + f.getName());
            }
            if (Modifier.isStatic(modifiers)) {
                due("static " + f.getName() + " is final", Modifier.isFinal(modifiers), true);
            }
        }
        due("constants", open, CONSTANTS);
        due("NONE", FingerOverlay.NONE, -1);
        due("ABSENT", FingerOverlay.ABSENT, 4294967296L);
        due("NOTHING", FingerOverlay.NOTHING, 8589934592L);
    }

    private static void nestedClasses() {
        Class<?>[] inside = FingerOverlay.class.getDeclaredClasses();
        due("at most twelve classes", inside.length + 1 <= 12, true);
        for (Class<?> c : inside) {
            due(c.getName() + " is static", Modifier.isStatic(c.getModifiers()), true);
            due(c.getName() + " is not open", Modifier.isPublic(c.getModifiers()) || Modifier.isProtected(c.getModifiers()), false);
        }
    }

    private static void words() throws IOException {
        String text = Files.readString(SOURCE).replaceAll("//[^\n]*", "").replaceAll("(?s)/\\*.*?\\*/", "");
        Matcher words = Pattern.compile("\\b(throw|throws|try|catch|synchronized|assert|native|volatile|Thread|Random"
                + "|Exact|System\\.(?!arraycopy)\\w+|package|var)\\b|->|::").matcher(text);
        while (words.find()) {
            due("word in the program", words.group(), "none of these");
        }
        Matcher imports = Pattern.compile("import\\s+([^;]+);").matcher(text);
        while (imports.find()) {
            String name = imports.group(1);
            due("import " + name, name.matches("java\\.util\\.(Arrays|ArrayList|List|Iterator)"), true);
        }
    }

    /** Far beyond 512 calls and with any arguments the answers are free, but every call still ends. */
    private static void nothingThrows() {
        Random random = new Random(1);
        int[] odd = {Integer.MIN_VALUE, Integer.MAX_VALUE, -1, 0, 1, 7, 8, 19, 20, 21, 255, 256, 100, 50, 200};
        for (int run = 0; run < 20; run++) {
            FingerOverlay x = new FingerOverlay();
            for (int i = 0; i < 5000; i++) {
                int a = odd[random.nextInt(odd.length)];
                int b = odd[random.nextInt(odd.length)];
                call(x, random.nextInt(20), a, b);
            }
        }
    }

    private static void call(FingerOverlay x, int which, int a, int b) {
        switch (which) {
            case 0 -> x.create(a);
            case 1 -> x.join(a, b);
            case 2 -> x.stabilise(a);
            case 3 -> x.fix(a, b);
            case 4 -> x.put(a, b, a ^ b);
            case 5 -> x.get(a, b);
            case 6 -> x.deliver(a);
            case 7 -> x.pump(a);
            case 8 -> x.message(a);
            case 9 -> x.successor(a);
            case 10 -> x.predecessor(a);
            case 11 -> x.finger(a, b);
            case 12 -> x.entry(a, b);
            case 13 -> x.entries(a);
            case 14 -> x.answer(a);
            case 15 -> x.hops(a);
            case 16 -> x.owner(a);
            case 17 -> x.wrong();
            case 18 -> x.misplaced();
            default -> x.pump(1 + (a & 7));
        }
    }
}
