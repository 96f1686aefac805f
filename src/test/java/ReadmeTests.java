import java.io.IOException;
import java.lang.reflect.Method;
import java.lang.reflect.Modifier;
import java.nio.file.DirectoryStream;
import java.nio.file.Files;
import java.nio.file.Path;
import java.util.ArrayList;
import java.util.List;

/** What README.md says of the use: its example runs here as it stands there, and no call and no test is left out. */
public final class ReadmeTests {
    private static final Path README = Path.of("README.md");
    private static final Path TESTS = Path.of("src/test/java");

    private static int failures = 0;

    public static void main(String[] args) throws IOException {
        example();
        exampleIsTheReadmes();
        everyCallIsNamed();
        everyTestIsNamed();
        System.out.println(failures == 0 ? "README.md is right" : failures + " checks failed");
        if (failures != 0) {
            System.exit(1);
        }
    }

    private static void due(String what, Object got, Object want) {
        if (!got.equals(want)) {
            failures++;
            System.out.println(what + ": " + got + ", due is " + want);
        }
    }

    /** The lines of README.md, with a look at the object where a comment there says what has happened. */
    private static void example() {
        FingerOverlay ring = new FingerOverlay();
        ring.create(10);
        ring.join(80, 10);
        due("80 still joins", ring.successor(80), FingerOverlay.NONE);
        ring.pump(8);
        due("80 is a member", ring.successor(80), 10);
        ring.stabilise(80);
        ring.pump(8);
        due("10 knows its predecessor", ring.predecessor(10), 80);
        ring.stabilise(10);
        ring.deliver(0);
        due("TELL is in flight", ring.message(0), 7 * 256 + 10);
        ring.pump(8);
        due("10 knows its successor", ring.successor(10), 80);
        due("80 knows its predecessor", ring.predecessor(80), 10);
        ring.put(10, 30, 5);
        ring.pump(8);
        due("80 has the entry", ring.entry(80, 30), 5L);
        ring.get(80, 30);
        ring.pump(8);
        long five = ring.answer(80);
        due("the answer", five, 5L);
        int one = ring.hops(80);
        due("the hops", one, 1);
    }

    /** Without its comments, each line of the example in README.md is the next line of the one above. */
    private static void exampleIsTheReadmes() throws IOException {
        List<String> own = new ArrayList<>();
        for (String line : Files.readAllLines(TESTS.resolve("ReadmeTests.java"))) {
            if (line.matches("        (FingerOverlay ring =|ring\\.|long five|int one).*")) {
                own.add(line.trim());
            }
        }
        due("the example", readmeExample(), own);
    }

    private static List<String> readmeExample() throws IOException {
        List<String> lines = new ArrayList<>();
        boolean inside = false;
        for (String line : Files.readAllLines(README)) {
            if (line.startsWith("```")) {
                inside = line.equals("```java");
            } else if (inside) {
                lines.add(line.replaceAll("//.*", "").trim());
            }
        }
        return lines;
    }

    private static void everyCallIsNamed() throws IOException {
        String text = Files.readString(README);
        for (Method m : FingerOverlay.class.getDeclaredMethods()) {
            if (Modifier.isPublic(m.getModifiers())) {
                due("README.md names " + m.getName(), text.contains("`" + m.getName() + "("), true);
            }
        }
        for (String name : new String[] {"NONE", "ABSENT", "NOTHING"}) {
            due("README.md names " + name, text.contains("`" + name + "`"), true);
        }
    }

    private static void everyTestIsNamed() throws IOException {
        String text = Files.readString(README);
        try (DirectoryStream<Path> files = Files.newDirectoryStream(TESTS, "*.java")) {
            for (Path file : files) {
                due("README.md names " + file, text.contains(file.getFileName().toString()), true);
            }
        }
    }
}
