import java.io.IOException;
import java.nio.file.Files;
import java.nio.file.Path;
import java.util.ArrayList;
import java.util.List;
import java.util.function.Consumer;
import java.util.function.Function;
import java.util.function.Supplier;

/** What the tests of the document's boundary sentences share: each test bears the words that it is about. */
abstract class Edges {
    static final int NONE = FingerOverlay.NONE;
    static final long ABSENT = FingerOverlay.ABSENT;
    static final long NOTHING = FingerOverlay.NOTHING;
    static final int LEAST = Integer.MIN_VALUE;
    static final int GREATEST = Integer.MAX_VALUE;

    static final int FIND = 256;
    static final int FOUND = 2 * 256;
    static final int STORE = 3 * 256;
    static final int FETCH = 4 * 256;
    static final int REPLY = 5 * 256;
    static final int ASK = 6 * 256;
    static final int TELL = 7 * 256;
    static final int NOTIFY = 8 * 256;

    /** No ids; some of them are one in their last eight bits, or next to one. */
    static final int[] NO_IDS = {-1, 256, -246, 266, -256, 512, LEAST, GREATEST};

    private static final Path DOCUMENT = Path.of("../shared/DOC.md");

    private static String section = "";
    private static String sectionText = "";
    private static String sentence = "";
    private static int tests = 0;
    private static int failures = 0;

    /** The tests that follow are about that section of the document. */
    static void section(String heading) {
        section = heading;
        sectionText = textOf(heading);
    }

    /** The words must stand in the section, so that a test is found again when the document changes. */
    static void test(String words, Runnable body) {
        sentence = words;
        tests++;
        if (!sectionText.contains(words)) {
            failed("the document does not say so");
        }
        try {
            body.run();
        } catch (RuntimeException | StackOverflowError problem) {
            failed("a call threw " + problem);
        }
    }

    static void failed(String what) {
        failures++;
        System.out.println(section + ", \"" + sentence + "\": " + what);
    }

    static void finish() {
        System.out.println(failures == 0 ? tests + " sentences hold" : failures + " checks failed");
        if (failures != 0) {
            System.exit(1);
        }
    }

    static Run alone(int id) {
        Run x = new Run();
        x.create(id).is(true);
        return x;
    }

    /** A ring whose successors and predecessors are right and whose fingers are none; ids ascend. */
    static Run ring(int... ids) {
        Run x = alone(ids[0]);
        for (int i = ids.length - 1; i > 0; i--) {
            x.joinNow(ids[i], ids[0]);
            x.stabiliseNow(ids[i]);
            x.stabiliseNow(ids[0]);
        }
        return x;
    }

    /** A member and another node that is still joining; its FIND has arrived if so told, its FOUND has not. */
    static Run joining(int member, int id, boolean found) {
        Run x = alone(member);
        x.join(id, member).is(true);
        if (found) {
            x.deliver(0).is(1);
        }
        return x;
    }

    /** A member, and so many messages in flight to it. */
    static Run flying(int messages, int id) {
        Run x = alone(id);
        x.fillUpTo(messages, id);
        return x;
    }

    /**
     * The call is refused, and changes nothing: whatever is called afterwards answers what it answers on another
     * object that has the same story without that call.
     */
    static void refused(Supplier<Run> story, Function<Run, Answer> call) {
        for (Consumer<Run> look : looks(story.get().nodes())) {
            Run with = story.get();
            Answer refusal = call.apply(with);
            refusal.isRefused();
            int start = with.calls();
            look.accept(with);
            Run without = story.get();
            look.accept(without);
            compare(refusal.call, with.answersFrom(start), without.answersFrom(start - 1));
        }
    }

    private static void compare(String refusal, List<String> with, List<String> without) {
        for (int i = 0; i < Math.max(with.size(), without.size()); i++) {
            String got = i < with.size() ? with.get(i) : "no call more";
            String due = i < without.size() ? without.get(i) : "no call more";
            if (!got.equals(due)) {
                failed("behind the refused " + refusal + " " + got + ", without it " + due);
                return;
            }
        }
    }

    /** Each look is for an object of its own, so that story and look together stay below 512 calls. */
    private static List<Consumer<Run>> looks(List<Integer> nodes) {
        List<Consumer<Run>> looks = new ArrayList<>();
        looks.add(Edges::lookAtMessages);
        looks.add(x -> forIds(x::successor));
        looks.add(x -> forIds(x::predecessor));
        looks.add(x -> forIds(x::entries));
        looks.add(x -> forIds(x::answer));
        looks.add(x -> forIds(x::hops));
        looks.add(x -> forIds(x::owner));
        looks.add(x -> lookAtFingers(x, nodes));
        looks.add(x -> {
            x.create(7);
            x.create(8);
            forIds(x::successor);
        });
        looks.add(x -> {
            x.pumpAll();
            lookAtNodes(x, nodes);
        });
        looks.add(x -> {
            deliverTheNewestFirst(x);
            lookAtNodes(x, nodes);
        });
        for (int id : nodes) {
            looks.add(x -> forIds(key -> x.entry(id, key)));
        }
        if (!nodes.isEmpty()) {
            addGoingOn(looks, nodes);
        }
        return looks;
    }

    /** Nodes, messages and keys that a refused call took in secret would be missing here. */
    private static void addGoingOn(List<Consumer<Run>> looks, List<Integer> nodes) {
        int first = nodes.get(0);
        looks.add(x -> forIds(id -> x.join(id, first)));
        looks.add(x -> {
            for (int i = 0; i < 22; i++) {
                x.get(first, 3 * i);
            }
            x.pumpAll();
            lookAtNodes(x, nodes);
        });
        looks.add(x -> {
            for (int key = 0; key < 40; key++) {
                x.put(first, key, 1000 + key);
                x.pump(8);
            }
            x.pumpAll();
            lookAtNodes(x, nodes);
        });
        looks.add(x -> {
            for (int id : nodes) {
                x.stabilise(id);
                x.pump(8);
            }
            for (int j = 0; j < 8; j++) {
                x.fix(first, j);
                x.pump(8);
            }
            x.pumpAll();
            lookAtNodes(x, nodes);
        });
    }

    private static void forIds(Function<Integer, Answer> query) {
        for (int id = -1; id <= 256; id++) {
            query.apply(id);
        }
    }

    private static void lookAtMessages(Run x) {
        x.flying();
        for (int k = -1; k <= 21; k++) {
            x.message(k);
        }
        x.wrong();
        x.misplaced();
    }

    private static void lookAtFingers(Run x, List<Integer> nodes) {
        for (int id : nodes) {
            for (int j = -1; j <= 8; j++) {
                x.finger(id, j);
            }
        }
    }

    private static void lookAtNodes(Run x, List<Integer> nodes) {
        lookAtMessages(x);
        for (int id : nodes) {
            x.successor(id);
            x.predecessor(id);
            x.entries(id);
            x.answer(id);
            x.hops(id);
        }
    }

    private static void deliverTheNewestFirst(Run x) {
        for (int i = 0; i < 60; i++) {
            long flying = x.flying().value;
            if (flying == 0) {
                return;
            }
            x.deliver((int) flying - 1);
        }
    }

    private static String textOf(String heading) {
        StringBuilder text = new StringBuilder();
        boolean inside = false;
        for (String line : documentLines()) {
            if (line.startsWith("## ")) {
                inside = line.equals("## " + heading);
            } else if (inside) {
                text.append(line).append(' ');
            }
        }
        return text.toString().replaceAll("\\s+", " ");
    }

    private static List<String> documentLines() {
        try {
            return Files.readAllLines(DOCUMENT);
        } catch (IOException problem) {
            failed("the document cannot be read: " + problem);
            return List.of();
        }
    }
}
