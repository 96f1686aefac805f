import java.util.ArrayList;
import java.util.List;

/**
 * A new object and the calls made on it. The calls are counted, because the document leaves free what an object
 * answers behind its 512th call: a test that goes on longer would ask for what is not promised.
 */
final class Run {
    static final int MOST_CALLS = 512;

    private final FingerOverlay object = new FingerOverlay();
    private final List<Answer> answers = new ArrayList<>();
    private final List<Integer> nodes = new ArrayList<>();

    int calls() {
        return answers.size();
    }

    /** The answers from that call on. */
    List<String> answersFrom(int call) {
        List<String> texts = new ArrayList<>();
        for (Answer answer : answers.subList(call, answers.size())) {
            texts.add(answer.toString());
        }
        return texts;
    }

    /** The ids that create() and join() took. */
    List<Integer> nodes() {
        return nodes;
    }

    Answer create(int id) {
        boolean taken = object.create(id);
        if (taken) {
            nodes.add(id);
        }
        return told(taken, "create", id);
    }

    Answer join(int id, int via) {
        boolean taken = object.join(id, via);
        if (taken) {
            nodes.add(id);
        }
        return told(taken, "join", id, via);
    }

    Answer stabilise(int id) {
        return told(object.stabilise(id), "stabilise", id);
    }

    Answer fix(int id, int j) {
        return told(object.fix(id, j), "fix", id, j);
    }

    Answer put(int id, int key, int value) {
        return told(object.put(id, key, value), "put", id, key, value);
    }

    Answer get(int id, int key) {
        return told(object.get(id, key), "get", id, key);
    }

    Answer deliver(int k) {
        return told(object.deliver(k), "deliver", k);
    }

    Answer pump(int n) {
        return told(object.pump(n), "pump", n);
    }

    Answer flying() {
        return told(object.flying(), "flying");
    }

    Answer message(int k) {
        return told(object.message(k), "message", k);
    }

    Answer successor(int id) {
        return told(object.successor(id), "successor", id);
    }

    Answer predecessor(int id) {
        return told(object.predecessor(id), "predecessor", id);
    }

    Answer finger(int id, int j) {
        return told(object.finger(id, j), "finger", id, j);
    }

    Answer entry(int id, int key) {
        return told(object.entry(id, key), "entry", id, key);
    }

    Answer entries(int id) {
        return told(object.entries(id), "entries", id);
    }

    Answer answer(int id) {
        return told(object.answer(id), "answer", id);
    }

    Answer hops(int id) {
        return told(object.hops(id), "hops", id);
    }

    Answer owner(int key) {
        return told(object.owner(key), "owner", key);
    }

    Answer wrong() {
        return told(object.wrong(), "wrong");
    }

    Answer misplaced() {
        return told(object.misplaced(), "misplaced");
    }

    /** All messages arrive, the oldest first. */
    void pumpAll() {
        for (int i = 0; i < 60; i++) {
            if (pump(8).value < 8) {
                return;
            }
        }
        Edges.failed("messages are in flight for ever");
    }

    void joinNow(int id, int via) {
        join(id, via).is(true);
        pumpAll();
    }

    void stabiliseNow(int id) {
        stabilise(id).is(true);
        pumpAll();
    }

    void fixNow(int id, int j) {
        fix(id, j).is(true);
        pumpAll();
    }

    void putNow(int id, int key, int value) {
        put(id, key, value).is(true);
        pumpAll();
    }

    void getNow(int id, int key) {
        get(id, key).is(true);
        pumpAll();
    }

    /** A node joins and stabilises while message 0, the only one in flight, stays where it is. */
    void joinOver(int id, int via) {
        join(id, via).is(true);
        for (int i = 0; i < 14 && flying().value > 1; i++) {
            deliver(1);
        }
        flying().is(1);
        stabiliseOver(id);
    }

    void stabiliseOver(int id) {
        stabilise(id).is(true);
        deliver(1).is(6);
        deliver(1).is(7);
        deliver(1).is(8);
    }

    /** Sends FIND for key 0 to that member until so many messages are in flight. */
    void fillUpTo(int messages, int id) {
        for (long i = flying().value; i < messages; i++) {
            get(id, 0).is(true);
        }
        flying().is(messages);
    }

    private Answer told(boolean value, String name, int... arguments) {
        return told(new Answer(words(name, arguments), value));
    }

    private Answer told(long value, String name, int... arguments) {
        return told(new Answer(words(name, arguments), value));
    }

    private Answer told(Answer answer) {
        answers.add(answer);
        if (answers.size() > MOST_CALLS) {
            Edges.failed("the test is wrong: it makes call " + answers.size() + " on one object");
        }
        return answer;
    }

    private static String words(String name, int... arguments) {
        StringBuilder text = new StringBuilder(name).append('(');
        for (int i = 0; i < arguments.length; i++) {
            text.append(i == 0 ? "" : ", ").append(arguments[i]);
        }
        return text.append(')').toString();
    }
}
