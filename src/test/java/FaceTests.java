import java.io.IOException;
import java.lang.reflect.Constructor;
import java.lang.reflect.Field;
import java.lang.reflect.Method;
import java.lang.reflect.Modifier;
import java.nio.file.Files;
import java.nio.file.Path;
import java.util.Arrays;
import java.util.Random;
import java.util.Set;
import java.util.TreeSet;
import java.util.regex.Matcher;
import java.util.regex.Pattern;

/** The public face of the document, and those rules of LANGUAGE.md that can be seen from outside. */
public final class FaceTests {
    private static final Path SOURCE = Path.of("src/main/java/FingerOverlay.java");
    private static final Path DOCUMENT = Path.of("../shared/DOC.md");

    private static int failures = 0;

    public static void main(String[] args) throws IOException, IllegalAccessException {
        face();
        privateMethods();
        nestedClasses();
        words();
        nothingThrows();
        System.out.println(failures == 0 ? "the face is the document's" : failures + " checks failed");
        if (failures != 0) {
            System.exit(1);
        }
    }

    private static void due(String what, Object got, Object want) {
        if (!got.equals(want)) {
            failures++;
            System.out.println(what + ": " + got + ", due is " + want);
        }
    }

    /** The lines of the document's face between the class's own line and its last bracket, each without its end. */
    private static Set<String> documentFace() throws IOException {
        String text = Files.readString(DOCUMENT);
        Matcher face = Pattern.compile("(?s)## The public face\\s+```java\\s+public final class FingerOverlay \\{(.*?)\\}")
                .matcher(text);
        due("the document has a face", face.find(), true);
        Set<String> lines = new TreeSet<>();
        for (String line : face.group(1).split(";")) {
            if (!line.isBlank()) {
                lines.add(line.trim().replaceAll("(int|long|boolean) \\w+(?=[,)])", "$1"));
            }
        }
        return lines;
    }

    private static void face() throws IOException, IllegalAccessException {
        Set<String> open = openConstants();
        open.addAll(openMethods());
        for (Constructor<?> constructor : FingerOverlay.class.getDeclaredConstructors()) {
            open.add(constructor.toString());
        }
        due("the face", open, documentFace());
        due("class", Modifier.toString(FingerOverlay.class.getModifiers()), "public final");
    }

    private static Set<String> openMethods() {
        Set<String> open = new TreeSet<>();
        for (Method m : FingerOverlay.class.getDeclaredMethods()) {
            if (!Modifier.isPrivate(m.getModifiers())) {
                String parameters = Arrays.toString(m.getParameterTypes());
                open.add(Modifier.toString(m.getModifiers()) + " " + m.getReturnType() + " " + m.getName() + "("
                        + parameters.substring(1, parameters.length() - 1) + ")");
            }
        }
        return open;
    }

    private static Set<String> openConstants() throws IllegalAccessException {
        Set<String> open = new TreeSet<>();
        for (Field f : FingerOverlay.class.getDeclaredFields()) {
            if (!Modifier.isPrivate(f.getModifiers())) {
                String value = f.get(null) + (f.getType() == long.class ? "L" : "");
                open.add(Modifier.toString(f.getModifiers()) + " " + f.getType() + " " + f.getName() + " = " + value);
            }
        }
        return open;
    }

    private static void privateMethods() {
        Set<String> openNames = new TreeSet<>();
        for (Method m : FingerOverlay.class.getMethods()) {
            openNames.add(m.getName());
        }
        for (Method m : FingerOverlay.class.getDeclaredMethods()) {
            if (Modifier.isPrivate(m.getModifiers()) && openNames.contains(m.getName())) {
                due("private method", m.getName(), "another name than a public one");
            }
        }
    }

    private static void nestedClasses() {
        Class<?>[] inside = FingerOverlay.class.getDeclaredClasses();
        due("at most twelve classes", inside.length + 1 <= 12, true);
        sizes(FingerOverlay.class);
        for (Class<?> c : inside) {
            due(c.getName() + " is static", Modifier.isStatic(c.getModifiers()), true);
            due(c.getName() + " is not open", Modifier.isPublic(c.getModifiers()) || Modifier.isProtected(c.getModifiers()), false);
            sizes(c);
        }
    }

    private static void sizes(Class<?> c) {
        int fields = 0;
        for (Field f : c.getDeclaredFields()) {
            if (Modifier.isStatic(f.getModifiers())) {
                due("static " + f.getName() + " is final", Modifier.isFinal(f.getModifiers()), true);
            } else {
                fields++;
            }
        }
        due(c.getName() + " has at most twenty fields", fields <= 20, true);
        for (Method m : c.getDeclaredMethods()) {
            due(m.getName() + " has at most seven parameters", m.getParameterCount() <= 7, true);
        }
    }

    private static void words() throws IOException {
        String text = Files.readString(SOURCE).replaceAll("//[^\n]*", "").replaceAll("(?s)/\\*.*?\\*/", "");
        Matcher words = Pattern.compile("\\b(throw|throws|try|catch|synchronized|assert|native|volatile|Thread|Random"
                + "|Exact|System\\.(?!arraycopy)\\w+|package|var)\\b|->|::").matcher(text);
        while (words.find()) {
            due("word in the program", words.group(), "none of these");
        }
        Matcher imports = Pattern.compile("import\\s+([^;]+);").matcher(text);
        while (imports.find()) {
            String name = imports.group(1);
            due("import " + name, name.matches("java\\.util\\.(Arrays|ArrayList|List|Iterator)"), true);
        }
    }

    /** Far beyond 512 calls and with any arguments the answers are free, but every call still ends. */
    private static void nothingThrows() {
        Random random = new Random(1);
        int[] odd = {Integer.MIN_VALUE, Integer.MAX_VALUE, -1, 0, 1, 7, 8, 19, 20, 21, 255, 256, 100, 50, 200};
        for (int run = 0; run < 20; run++) {
            FingerOverlay x = new FingerOverlay();
            for (int i = 0; i < 5000; i++) {
                int a = odd[random.nextInt(odd.length)];
                int b = odd[random.nextInt(odd.length)];
                call(x, random.nextInt(20), a, b);
            }
        }
    }

    private static void call(FingerOverlay x, int which, int a, int b) {
        switch (which) {
            case 0 -> x.create(a);
            case 1 -> x.join(a, b);
            case 2 -> x.stabilise(a);
            case 3 -> x.fix(a, b);
            case 4 -> x.put(a, b, a ^ b);
            case 5 -> x.get(a, b);
            case 6 -> x.deliver(a);
            case 7 -> x.pump(a);
            case 8 -> x.message(a);
            case 9 -> x.successor(a);
            case 10 -> x.predecessor(a);
            case 11 -> x.finger(a, b);
            case 12 -> x.entry(a, b);
            case 13 -> x.entries(a);
            case 14 -> x.answer(a);
            case 15 -> x.hops(a);
            case 16 -> x.owner(a);
            case 17 -> x.wrong();
            case 18 -> x.misplaced();
            default -> x.pump(1 + (a & 7));
        }
    }
}
