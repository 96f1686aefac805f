import java.util.ArrayList;
import java.util.List;

/** One method for each promise of the document: ordinary inputs, the edges it names, and wrong inputs. */
public final class PromiseTests {
    private static final int NONE = FingerOverlay.NONE;
    private static final long ABSENT = FingerOverlay.ABSENT;
    private static final long NOTHING = FingerOverlay.NOTHING;
    private static final int[] NO_IDS = {-1, 256, 266, -246, Integer.MIN_VALUE, Integer.MAX_VALUE};

    private static int promise = 0;
    private static int failures = 0;

    public static void main(String[] args) {
        promise = 1;
        newObject();
        promise = 2;
        create();
        promise = 3;
        join();
        joinIsRefused();
        joinLimits();
        joinIsPassedOn();
        promise = 4;
        stabilise();
        stabiliseIsRefused();
        tellTakesOnlyWhoIsBetween();
        notifyKeepsTheNearerPredecessor();
        notifyHandsEntriesOver();
        notifyOverwrites();
        promise = 5;
        fix();
        fixIsRefused();
        promise = 6;
        put();
        putIsRefused();
        putTakesTenKeys();
        promise = 7;
        get();
        getIsRefused();
        getGoesByTheGreatestFinger();
        getNeverGoesByTheKeyItself();
        getForOwnIdGoesRound();
        promise = 8;
        deliver();
        promise = 9;
        pump();
        promise = 10;
        flying();
        promise = 11;
        message();
        promise = 12;
        successor();
        promise = 13;
        predecessor();
        promise = 14;
        finger();
        promise = 15;
        entry();
        promise = 16;
        entries();
        promise = 17;
        answer();
        promise = 18;
        hops();
        promise = 19;
        owner();
        promise = 20;
        wrong();
        promise = 21;
        misplaced();
        System.out.println(failures == 0 ? "all promises hold" : failures + " checks failed");
        if (failures != 0) {
            System.exit(1);
        }
    }

    private static void due(String what, long got, long want) {
        if (got != want) {
            failures++;
            System.out.println("promise " + promise + ": " + what + " answered " + got + ", due is " + want);
        }
    }

    private static void yes(String what, boolean got) {
        due(what, got ? 1 : 0, 1);
    }

    private static void no(String what, boolean got) {
        due(what, got ? 1 : 0, 0);
    }

    private static void same(String what, List<Long> got, List<Long> want) {
        if (!got.equals(want)) {
            failures++;
            System.out.println("promise " + promise + ": " + what + " changed " + want + " to " + got);
        }
    }

    /** What can be seen of the object, for the ids given; the messages first, then each node. */
    private static List<Long> state(FingerOverlay x, int... ids) {
        List<Long> seen = new ArrayList<>();
        seen.add((long) x.flying());
        for (int k = 0; k < 20; k++) {
            seen.add((long) x.message(k));
        }
        for (int id : ids) {
            seen.add((long) x.successor(id));
            seen.add((long) x.predecessor(id));
            seen.add((long) x.entries(id));
            seen.add(x.answer(id));
            seen.add((long) x.hops(id));
        }
        seen.add((long) x.wrong());
        seen.add((long) x.misplaced());
        return seen;
    }

    private static FingerOverlay alone(int id) {
        FingerOverlay x = new FingerOverlay();
        yes("create(" + id + ")", x.create(id));
        return x;
    }

    private static void pumpAll(FingerOverlay x) {
        for (int i = 0; i < 30 && x.pump(8) > 0; i++) {
            continue;
        }
        due("flying() when all have arrived", x.flying(), 0);
    }

    private static void joinNow(FingerOverlay x, int id, int via) {
        yes("join(" + id + ", " + via + ")", x.join(id, via));
        pumpAll(x);
    }

    private static void stabiliseNow(FingerOverlay x, int id) {
        yes("stabilise(" + id + ")", x.stabilise(id));
        pumpAll(x);
    }

    private static void fixNow(FingerOverlay x, int id, int j) {
        yes("fix(" + id + ", " + j + ")", x.fix(id, j));
        pumpAll(x);
    }

    private static void putNow(FingerOverlay x, int id, int key, int value) {
        yes("put(" + id + ", " + key + ", " + value + ")", x.put(id, key, value));
        pumpAll(x);
    }

    private static void getNow(FingerOverlay x, int id, int key) {
        yes("get(" + id + ", " + key + ")", x.get(id, key));
        pumpAll(x);
    }

    /** A ring whose successors and predecessors are right; ids ascend. */
    private static FingerOverlay ring(int... ids) {
        FingerOverlay x = alone(ids[0]);
        int last = ids.length - 1;
        for (int i = last; i > 0; i--) {
            joinNow(x, ids[i], ids[0]);
            stabiliseNow(x, ids[i]);
            stabiliseNow(x, ids[0]);
        }
        for (int i = 0; i <= last; i++) {
            due("successor(" + ids[i] + ") in the ring", x.successor(ids[i]), ids[i == last ? 0 : i + 1]);
            due("predecessor(" + ids[i] + ") in the ring", x.predecessor(ids[i]), last == 0 ? NONE : ids[i == 0 ? last : i - 1]);
        }
        return x;
    }

    /** 20 messages in flight, all of them FIND for key 0 to that member. */
    private static void fill(FingerOverlay x, int id) {
        for (int i = x.flying(); i < 20; i++) {
            yes("get when " + i + " are in flight", x.get(id, 0));
        }
        due("flying() when full", x.flying(), 20);
    }

    private static void newObject() {
        FingerOverlay x = new FingerOverlay();
        due("flying()", x.flying(), 0);
        due("message(0)", x.message(0), NONE);
        due("deliver(0)", x.deliver(0), NONE);
        due("pump(1)", x.pump(1), 0);
        due("wrong()", x.wrong(), 0);
        due("misplaced()", x.misplaced(), 0);
        for (int id : new int[] {0, 1, 128, 255, -1, 256}) {
            due("owner", x.owner(id), NONE);
            due("successor", x.successor(id), NONE);
            due("predecessor", x.predecessor(id), NONE);
            due("finger", x.finger(id, 0), NONE);
            due("entry", x.entry(id, 0), ABSENT);
            due("entries", x.entries(id), NONE);
            due("answer", x.answer(id), NOTHING);
            due("hops", x.hops(id), NONE);
            no("join", x.join(id, id));
            no("join", x.join(id, 5));
            no("stabilise", x.stabilise(id));
            no("fix", x.fix(id, 0));
            no("put", x.put(id, 1, 1));
            no("get", x.get(id, 1));
        }
        due("flying() after refusals", x.flying(), 0);
        FingerOverlay other = alone(3);
        due("owner of another object", x.owner(3), NONE);
        due("owner", other.owner(3), 3);
    }

    private static void create() {
        for (int id : new int[] {0, 1, 127, 128, 255}) {
            FingerOverlay x = alone(id);
            due("successor", x.successor(id), id);
            due("predecessor", x.predecessor(id), NONE);
            due("entries", x.entries(id), 0);
            due("answer", x.answer(id), NOTHING);
            due("hops", x.hops(id), 0);
            due("flying", x.flying(), 0);
            for (int j = 0; j < 8; j++) {
                due("finger", x.finger(id, j), NONE);
            }
            no("create again", x.create(id));
            no("create another", x.create(id ^ 1));
            due("hops of another", x.hops(id ^ 1), NONE);
        }
        FingerOverlay x = new FingerOverlay();
        for (int id : NO_IDS) {
            no("create(" + id + ")", x.create(id));
            due("hops(" + id + ")", x.hops(id), NONE);
        }
        yes("create after refusals", x.create(9));
        due("owner(0)", x.owner(0), 9);
    }

    private static void join() {
        FingerOverlay x = alone(10);
        yes("join(80, 10)", x.join(80, 10));
        due("flying", x.flying(), 1);
        due("message(0)", x.message(0), 256 + 10);
        due("successor while joining", x.successor(80), NONE);
        due("predecessor while joining", x.predecessor(80), NONE);
        due("finger while joining", x.finger(80, 0), NONE);
        due("entries while joining", x.entries(80), NONE);
        due("entry while joining", x.entry(80, 1), ABSENT);
        due("answer while joining", x.answer(80), NOTHING);
        due("hops while joining", x.hops(80), 0);
        due("owner while joining", x.owner(80), 10);
        due("deliver", x.deliver(0), 1);
        due("message(0)", x.message(0), 2 * 256 + 80);
        due("still joining", x.successor(80), NONE);
        due("deliver", x.deliver(0), 2);
        due("successor", x.successor(80), 10);
        due("predecessor", x.predecessor(80), NONE);
        due("entries", x.entries(80), 0);
        due("finger", x.finger(80, 0), NONE);
        due("owner", x.owner(80), 80);
        due("flying", x.flying(), 0);
        due("successor(10) is as before", x.successor(10), 10);
    }

    private static void joinIsRefused() {
        FingerOverlay x = alone(10);
        yes("join(20, 10)", x.join(20, 10));
        List<Long> before = state(x, 10, 20);
        for (int id : NO_IDS) {
            no("join(" + id + ", 10)", x.join(id, 10));
            no("join(30, " + id + ")", x.join(30, id));
        }
        no("join of the member", x.join(10, 10));
        no("join of a joining node", x.join(20, 10));
        no("join via a joining node", x.join(30, 20));
        no("join via no node", x.join(30, 40));
        no("join via itself", x.join(30, 30));
        same("refused joins", state(x, 10, 20), before);
        due("no node was made", x.hops(30), NONE);
        pumpAll(x);
        no("join of a new member", x.join(20, 10));
        yes("join via the new member", x.join(30, 20));
        due("message(0)", x.message(0), 256 + 20);
        yes("join of 0", x.join(0, 10));
        yes("join of 255", x.join(255, 10));
    }

    private static void joinLimits() {
        FingerOverlay x = alone(100);
        for (int i = 1; i < 12; i++) {
            yes("join of node " + (i + 1), x.join(i, 100));
        }
        no("join of node 13", x.join(12, 100));
        due("flying", x.flying(), 11);
        due("hops of the refused", x.hops(12), NONE);
        pumpAll(x);
        no("join of node 13 among members", x.join(12, 100));
        due("flying", x.flying(), 0);

        FingerOverlay y = alone(100);
        fill(y, 100);
        no("join when 20 are in flight", y.join(1, 100));
        due("hops of the refused", y.hops(1), NONE);
        due("flying", y.flying(), 20);
        pumpAll(y);
        yes("join afterwards", y.join(1, 100));
    }

    private static void joinIsPassedOn() {
        FingerOverlay x = ring(0, 50, 100, 150);
        yes("join(120, 0)", x.join(120, 0));
        due("deliver", x.deliver(0), 1);
        due("to 50", x.message(0), 256 + 50);
        due("deliver", x.deliver(0), 1);
        due("to 100", x.message(0), 256 + 100);
        due("deliver", x.deliver(0), 1);
        due("to 120", x.message(0), 512 + 120);
        due("hops before FOUND", x.hops(120), 0);
        due("deliver", x.deliver(0), 2);
        due("hops", x.hops(120), 2);
        due("successor", x.successor(120), 150);
        due("hops of via", x.hops(0), 0);
    }

    private static void stabilise() {
        FingerOverlay x = alone(50);
        yes("stabilise(50)", x.stabilise(50));
        due("ASK to itself", x.message(0), 6 * 256 + 50);
        due("deliver", x.deliver(0), 6);
        due("TELL to itself", x.message(0), 7 * 256 + 50);
        due("deliver", x.deliver(0), 7);
        due("NOTIFY to itself", x.message(0), 8 * 256 + 50);
        due("predecessor before NOTIFY", x.predecessor(50), NONE);
        due("deliver", x.deliver(0), 8);
        due("predecessor", x.predecessor(50), 50);
        due("flying", x.flying(), 0);

        joinNow(x, 49, 50);
        yes("stabilise(49)", x.stabilise(49));
        due("ASK to the successor", x.message(0), 6 * 256 + 50);
        due("deliver", x.deliver(0), 6);
        due("TELL to the asking", x.message(0), 7 * 256 + 49);
        due("deliver", x.deliver(0), 7);
        due("50 is not between 49 and 50", x.successor(49), 50);
        due("NOTIFY to the successor", x.message(0), 8 * 256 + 50);
        due("deliver", x.deliver(0), 8);
        due("49 is between 50 and 50", x.predecessor(50), 49);
        yes("stabilise(50)", x.stabilise(50));
        due("pump", x.pump(2), 2);
        due("successor(50)", x.successor(50), 49);
        due("NOTIFY to the new successor", x.message(0), 8 * 256 + 49);
        due("pump", x.pump(8), 1);
        due("predecessor(49)", x.predecessor(49), 50);
    }

    private static void stabiliseIsRefused() {
        FingerOverlay x = alone(50);
        yes("join(60, 50)", x.join(60, 50));
        List<Long> before = state(x, 50, 60);
        for (int id : NO_IDS) {
            no("stabilise(" + id + ")", x.stabilise(id));
        }
        no("stabilise of no node", x.stabilise(51));
        no("stabilise of a joining node", x.stabilise(60));
        same("refused stabilise", state(x, 50, 60), before);
        fill(x, 50);
        no("stabilise when 20 are in flight", x.stabilise(50));
        due("flying", x.flying(), 20);
        due("last message", x.message(19), 256 + 50);
    }

    private static void tellTakesOnlyWhoIsBetween() {
        FingerOverlay x = ring(0, 100, 200);
        joinNow(x, 50, 0);
        yes("stabilise(50)", x.stabilise(50));
        due("pump", x.pump(2), 2);
        due("0 is not between 50 and 100", x.successor(50), 100);
        due("pump", x.pump(8), 1);
        due("predecessor(100)", x.predecessor(100), 50);
        yes("stabilise(0)", x.stabilise(0));
        due("ASK to 100", x.message(0), 6 * 256 + 100);
        due("pump", x.pump(8), 3);
        due("50 is between 0 and 100", x.successor(0), 50);
        due("predecessor(50)", x.predecessor(50), 0);
        stabiliseNow(x, 0);
        due("0 is not between 0 and 50", x.successor(0), 50);
        joinNow(x, 230, 200);
        stabiliseNow(x, 230);
        stabiliseNow(x, 200);
        due("230 is between 200 and 0, round the circle", x.successor(200), 230);
    }

    private static void notifyKeepsTheNearerPredecessor() {
        FingerOverlay x = alone(200);
        joinNow(x, 20, 200);
        joinNow(x, 100, 200);
        stabiliseNow(x, 100);
        due("predecessor(200)", x.predecessor(200), 100);
        yes("stabilise(20)", x.stabilise(20));
        due("ASK", x.deliver(0), 6);
        due("TELL", x.deliver(0), 7);
        due("100 is between 20 and 200", x.successor(20), 100);
        due("NOTIFY goes to the new successor", x.message(0), 8 * 256 + 100);
        due("NOTIFY", x.deliver(0), 8);
        due("predecessor(100)", x.predecessor(100), 20);

        FingerOverlay y = alone(200);
        joinNow(y, 20, 200);
        joinNow(y, 100, 200);
        yes("stabilise(20)", y.stabilise(20));
        due("pump", y.pump(2), 2);
        stabiliseLate(y);
        due("20 is not between 100 and 200", y.predecessor(200), 100);
    }

    /** NOTIFY from 20 is in flight; NOTIFY from 100 overtakes it. */
    private static void stabiliseLate(FingerOverlay y) {
        yes("stabilise(100)", y.stabilise(100));
        due("ASK overtakes", y.deliver(1), 6);
        due("TELL overtakes", y.deliver(1), 7);
        due("NOTIFY overtakes", y.deliver(1), 8);
        due("predecessor(200)", y.predecessor(200), 100);
        due("the late NOTIFY", y.deliver(0), 8);
    }

    private static void notifyHandsEntriesOver() {
        FingerOverlay x = alone(200);
        putNow(x, 200, 10, 1);
        putNow(x, 200, 100, 2);
        putNow(x, 200, 101, 3);
        putNow(x, 200, 200, 4);
        putNow(x, 200, 201, 5);
        stabiliseNow(x, 200);
        due("nothing goes over from 200 to itself", x.entries(200), 5);
        joinNow(x, 100, 200);
        yes("stabilise(100)", x.stabilise(100));
        due("pump", x.pump(2), 2);
        due("entries before NOTIFY", x.entries(200), 5);
        due("pump", x.pump(1), 1);
        due("entries(200)", x.entries(200), 2);
        due("entries(100)", x.entries(100), 3);
        due("entry(100, 10)", x.entry(100, 10), 1);
        due("entry(100, 100)", x.entry(100, 100), 2);
        due("entry(200, 100)", x.entry(200, 100), ABSENT);
        due("entry(200, 101)", x.entry(200, 101), 3);
        due("entry(200, 200)", x.entry(200, 200), 4);
        due("entry(100, 201)", x.entry(100, 201), 5);
        due("entry(200, 201)", x.entry(200, 201), ABSENT);
    }

    private static void notifyOverwrites() {
        FingerOverlay x = ring(0, 200);
        yes("put(200, 50, 7)", x.put(200, 50, 7));
        due("pump", x.pump(2), 2);
        due("STORE is in flight to 200", x.message(0), 3 * 256 + 200);
        yes("join(100, 0)", x.join(100, 0));
        due("FIND overtakes", x.deliver(1), 1);
        due("FOUND overtakes", x.deliver(1), 2);
        stabiliseBehindStore(x, 100);
        stabiliseBehindStore(x, 0);
        due("successor(0)", x.successor(0), 100);
        yes("put(0, 50, 8)", x.put(0, 50, 8));
        due("FIND overtakes", x.deliver(1), 1);
        due("STORE overtakes", x.deliver(1), 3);
        due("entry(100, 50)", x.entry(100, 50), 8);
        due("the late STORE", x.deliver(0), 3);
        due("entry(200, 50)", x.entry(200, 50), 7);
        due("misplaced()", x.misplaced(), 1);
        stabiliseNow(x, 100);
        due("100 is not between 100 and 200: nothing is done", x.entry(200, 50), 7);
        joinNow(x, 150, 100);
        stabiliseNow(x, 150);
        due("entry(200, 50)", x.entry(200, 50), ABSENT);
        due("entry(150, 50)", x.entry(150, 50), 7);
        stabiliseNow(x, 100);
        due("predecessor(150)", x.predecessor(150), 100);
        due("entry(150, 50)", x.entry(150, 50), ABSENT);
        due("entry(100, 50) has the value that went over", x.entry(100, 50), 7);
        due("entries(100)", x.entries(100), 1);
        due("misplaced()", x.misplaced(), 0);
        joinNow(x, 120, 100);
        stabiliseNow(x, 120);
        stabiliseNow(x, 100);
        due("predecessor(120)", x.predecessor(120), 100);
        due("120 has none that could go over: 100's stays", x.entry(100, 50), 7);
    }

    private static void stabiliseBehindStore(FingerOverlay x, int id) {
        yes("stabilise", x.stabilise(id));
        due("ASK overtakes", x.deliver(1), 6);
        due("TELL overtakes", x.deliver(1), 7);
        due("NOTIFY overtakes", x.deliver(1), 8);
    }

    private static void fix() {
        FingerOverlay x = ring(10, 74, 138);
        yes("fix(10, 6)", x.fix(10, 6));
        due("FIND to itself", x.message(0), 256 + 10);
        due("deliver", x.deliver(0), 1);
        due("FOUND", x.message(0), 512 + 10);
        due("finger before FOUND", x.finger(10, 6), NONE);
        due("deliver", x.deliver(0), 2);
        due("10 + 64 is 74", x.finger(10, 6), 74);
        due("hops", x.hops(10), 0);
        yes("fix(10, 7)", x.fix(10, 7));
        pumpAll(x);
        due("10 + 128 is 138", x.finger(10, 7), 138);
        due("hops", x.hops(10), 1);
        fixNow(x, 74, 7);
        due("74 + 128 is 202", x.finger(74, 7), 10);
        fixNow(x, 138, 7);
        due("138 + 128 is 10, round the circle", x.finger(138, 7), 10);
        due("FIND that passes no node", x.hops(138), 0);
        fixNow(x, 138, 0);
        due("finger 0", x.finger(138, 0), 10);
        for (int j = 1; j < 7; j++) {
            due("other fingers", x.finger(138, j), NONE);
        }
        due("successor", x.successor(10), 74);
    }

    private static void fixIsRefused() {
        FingerOverlay x = alone(10);
        yes("join(20, 10)", x.join(20, 10));
        List<Long> before = state(x, 10, 20);
        for (int id : NO_IDS) {
            no("fix(" + id + ", 0)", x.fix(id, 0));
        }
        no("fix of no node", x.fix(11, 0));
        no("fix of a joining node", x.fix(20, 0));
        for (int j : new int[] {-1, 8, 32, 256, Integer.MIN_VALUE, Integer.MAX_VALUE}) {
            no("fix(10, " + j + ")", x.fix(10, j));
        }
        same("refused fix", state(x, 10, 20), before);
        fill(x, 10);
        no("fix when 20 are in flight", x.fix(10, 0));
        due("flying", x.flying(), 20);
    }

    private static void put() {
        FingerOverlay x = ring(10, 80);
        yes("put(80, 30, 5)", x.put(80, 30, 5));
        due("FIND to itself", x.message(0), 256 + 80);
        due("deliver", x.deliver(0), 1);
        due("FIND to 10", x.message(0), 256 + 10);
        due("deliver", x.deliver(0), 1);
        due("STORE to 80", x.message(0), 3 * 256 + 80);
        due("entry before STORE", x.entry(80, 30), ABSENT);
        due("deliver", x.deliver(0), 3);
        due("entry", x.entry(80, 30), 5);
        due("nothing is sent back", x.flying(), 0);
        due("hops", x.hops(80), 0);
        due("answer", x.answer(80), NOTHING);
        putNow(x, 10, 30, -6);
        due("entry", x.entry(80, 30), -6);
        due("entries", x.entries(80), 1);
        putNow(x, 10, 80, Integer.MIN_VALUE);
        due("the successor's own id", x.entry(80, 80), Integer.MIN_VALUE);
        putNow(x, 10, 81, Integer.MAX_VALUE);
        due("one past the successor", x.entry(10, 81), Integer.MAX_VALUE);
        putNow(x, 10, 10, 0);
        due("the own id", x.entry(10, 10), 0);
        putNow(x, 10, 0, 1);
        putNow(x, 10, 255, 2);
        due("key 0", x.entry(10, 0), 1);
        due("key 255", x.entry(10, 255), 2);
    }

    private static void putIsRefused() {
        FingerOverlay x = alone(10);
        yes("join(20, 10)", x.join(20, 10));
        List<Long> before = state(x, 10, 20);
        for (int id : NO_IDS) {
            no("put(" + id + ", 1, 1)", x.put(id, 1, 1));
            no("put(10, " + id + ", 1)", x.put(10, id, 1));
        }
        no("put of no node", x.put(11, 1, 1));
        no("put of a joining node", x.put(20, 1, 1));
        same("refused put", state(x, 10, 20), before);
        fill(x, 10);
        for (int key = 0; key < 12; key++) {
            no("put when 20 are in flight", x.put(10, key, 1));
        }
        due("flying", x.flying(), 20);
        pumpAll(x);
        for (int key = 100; key < 110; key++) {
            yes("refused puts take no key", x.put(10, key, 1));
        }
    }

    private static void putTakesTenKeys() {
        FingerOverlay x = ring(10, 80);
        for (int i = 0; i < 10; i++) {
            yes("put of ten keys", x.put(i % 2 == 0 ? 10 : 80, i * 20, i));
            yes("put again", x.put(10, 0, 77));
            pumpAll(x);
        }
        no("put of an eleventh key", x.put(10, 1, 1));
        no("put of an eleventh key elsewhere", x.put(80, 200, 1));
        due("flying", x.flying(), 0);
        yes("put of the first key", x.put(80, 0, 5));
        yes("put of the tenth key", x.put(80, 180, 6));
        pumpAll(x);
        due("entry", x.entry(10, 0), 5);
        due("entry", x.entry(10, 180), 6);
        due("entry of the refused", x.entry(80, 1), ABSENT);
        due("entries", x.entries(10) + x.entries(80), 10);
    }

    private static void get() {
        FingerOverlay x = ring(10, 80);
        putNow(x, 10, 30, -5);
        yes("get(80, 30)", x.get(80, 30));
        due("FIND to itself", x.message(0), 256 + 80);
        due("deliver", x.deliver(0), 1);
        due("FIND to 10", x.message(0), 256 + 10);
        due("deliver", x.deliver(0), 1);
        due("FETCH to 80", x.message(0), 4 * 256 + 80);
        due("deliver", x.deliver(0), 4);
        due("REPLY to 80", x.message(0), 5 * 256 + 80);
        due("answer before REPLY", x.answer(80), NOTHING);
        due("hops before REPLY", x.hops(80), 0);
        due("deliver", x.deliver(0), 5);
        due("answer", x.answer(80), -5);
        due("hops", x.hops(80), 1);
        due("answer of the other", x.answer(10), NOTHING);
        getNow(x, 10, 31);
        due("no entry", x.answer(10), ABSENT);
        getNow(x, 10, 30);
        due("an entry", x.answer(10), -5);
        for (int key = 0; key < 12; key++) {
            yes("get takes any number of keys", x.get(10, key));
        }
    }

    private static void getIsRefused() {
        FingerOverlay x = alone(10);
        yes("join(20, 10)", x.join(20, 10));
        List<Long> before = state(x, 10, 20);
        for (int id : NO_IDS) {
            no("get(" + id + ", 1)", x.get(id, 1));
            no("get(10, " + id + ")", x.get(10, id));
        }
        no("get of no node", x.get(11, 1));
        no("get of a joining node", x.get(20, 1));
        same("refused get", state(x, 10, 20), before);
        fill(x, 10);
        no("get when 20 are in flight", x.get(10, 1));
        due("flying", x.flying(), 20);
    }

    private static void getGoesByTheGreatestFinger() {
        FingerOverlay x = ring(0, 32, 64, 96, 128, 192);
        fixNow(x, 0, 5);
        fixNow(x, 0, 6);
        fixNow(x, 0, 7);
        due("finger 5", x.finger(0, 5), 32);
        due("finger 6", x.finger(0, 6), 64);
        due("finger 7", x.finger(0, 7), 128);
        yes("get(0, 127)", x.get(0, 127));
        due("deliver", x.deliver(0), 1);
        due("128 is not between 0 and 127, 64 is", x.message(0), 256 + 64);
        pumpAll(x);
        due("0, 64, 96", x.hops(0), 2);
        yes("get(0, 129)", x.get(0, 129));
        due("deliver", x.deliver(0), 1);
        due("128 is between 0 and 129", x.message(0), 256 + 128);
        pumpAll(x);
        due("hops", x.hops(0), 1);
        yes("get(32, 10)", x.get(32, 10));
        due("deliver", x.deliver(0), 1);
        due("without fingers the successor", x.message(0), 256 + 64);
        pumpAll(x);
        due("32, 64, 96, 128, 192, 0", x.hops(32), 5);
    }

    private static void getNeverGoesByTheKeyItself() {
        FingerOverlay x = ring(0, 32, 64, 128);
        fixNow(x, 0, 7);
        fixNow(x, 0, 6);
        yes("get(0, 128)", x.get(0, 128));
        due("deliver", x.deliver(0), 1);
        due("128 is not between 0 and 128, 64 is", x.message(0), 256 + 64);
        due("deliver", x.deliver(0), 1);
        due("FETCH", x.message(0), 4 * 256 + 128);
        pumpAll(x);
        due("hops", x.hops(0), 1);
    }

    private static void getForOwnIdGoesRound() {
        FingerOverlay x = ring(0, 32, 64, 128);
        fixNow(x, 0, 7);
        putNow(x, 0, 0, 9);
        due("entry(0, 0)", x.entry(0, 0), 9);
        yes("get(0, 0)", x.get(0, 0));
        due("deliver", x.deliver(0), 1);
        due("between 0 and 0 are all but 0", x.message(0), 256 + 128);
        pumpAll(x);
        due("answer", x.answer(0), 9);
        due("hops", x.hops(0), 1);
        FingerOverlay y = alone(7);
        getNow(y, 7, 7);
        due("alone, all keys are past 7 up to 7", y.hops(7), 0);
        due("answer", y.answer(7), ABSENT);
    }

    private static void deliver() {
        FingerOverlay x = alone(10);
        due("deliver of none", x.deliver(0), NONE);
        yes("stabilise", x.stabilise(10));
        yes("put", x.put(10, 1, 11));
        yes("put", x.put(10, 1, 12));
        yes("get", x.get(10, 1));
        for (int k : new int[] {-1, 4, 5, 20, 21, Integer.MIN_VALUE, Integer.MAX_VALUE}) {
            due("deliver(" + k + ")", x.deliver(k), NONE);
        }
        due("flying", x.flying(), 4);
        due("deliver(1)", x.deliver(1), 1);
        due("what is sent stands last", x.message(3), 3 * 256 + 10);
        due("0 stays", x.message(0), 6 * 256 + 10);
        due("deliver(2)", x.deliver(2), 1);
        due("FETCH stands last", x.message(3), 4 * 256 + 10);
        due("STORE before it", x.message(2), 3 * 256 + 10);
        due("deliver(1)", x.deliver(1), 1);
        due("the second STORE stands last", x.message(3), 3 * 256 + 10);
        due("FETCH overtakes", x.deliver(2), 4);
        due("the later STORE first", x.deliver(2), 3);
        due("entry", x.entry(10, 1), 12);
        due("the earlier STORE last", x.deliver(1), 3);
        due("entry", x.entry(10, 1), 11);
        due("REPLY", x.deliver(1), 5);
        due("answer", x.answer(10), ABSENT);
        due("ASK", x.deliver(0), 6);
        due("TELL", x.deliver(0), 7);
        due("NOTIFY", x.deliver(0), 8);
        due("flying", x.flying(), 0);
        fill(x, 10);
        due("deliver(20) when full", x.deliver(20), NONE);
        due("deliver(19) when full", x.deliver(19), 1);
        due("flying", x.flying(), 20);
        due("FETCH stands last", x.message(19), 4 * 256 + 10);
        due("deliver(0) when full", x.deliver(0), 1);
        due("deliver(18)", x.deliver(18), 4);
        due("REPLY stands last", x.message(19), 5 * 256 + 10);
    }

    private static void pump() {
        FingerOverlay x = alone(10);
        due("pump of none", x.pump(8), 0);
        yes("get", x.get(10, 1));
        for (int n : new int[] {0, -1, 9, Integer.MIN_VALUE, Integer.MAX_VALUE}) {
            due("pump(" + n + ")", x.pump(n), NONE);
        }
        due("flying", x.flying(), 1);
        due("pump(1)", x.pump(1), 1);
        due("FETCH", x.message(0), 4 * 256 + 10);
        due("pump(8) takes what is sent meanwhile", x.pump(8), 2);
        due("flying", x.flying(), 0);
        yes("stabilise", x.stabilise(10));
        yes("get", x.get(10, 1));
        due("pump(3)", x.pump(3), 3);
        due("the oldest went first", x.message(0), 4 * 256 + 10);
        due("NOTIFY", x.message(1), 8 * 256 + 10);
        due("pump(2)", x.pump(2), 2);
        due("REPLY", x.message(0), 5 * 256 + 10);
        fill(x, 10);
        due("pump(8) when full", x.pump(8), 8);
        due("flying", x.flying(), 19);
    }

    private static void flying() {
        FingerOverlay x = alone(10);
        due("flying", x.flying(), 0);
        yes("join", x.join(20, 10));
        due("flying", x.flying(), 1);
        yes("stabilise", x.stabilise(10));
        due("flying", x.flying(), 2);
        yes("fix", x.fix(10, 0));
        due("flying", x.flying(), 3);
        yes("put", x.put(10, 1, 1));
        due("flying", x.flying(), 4);
        yes("get", x.get(10, 1));
        due("flying", x.flying(), 5);
        no("get refused", x.get(20, 1));
        due("flying", x.flying(), 5);
        due("pump(5)", x.pump(5), 5);
        due("each has sent one", x.flying(), 5);
        due("FOUND sends none", x.deliver(0), 2);
        due("flying", x.flying(), 4);
        pumpAll(x);
    }

    private static void message() {
        FingerOverlay x = ring(0, 255);
        due("message(0) of none", x.message(0), NONE);
        yes("stabilise(255)", x.stabilise(255));
        yes("stabilise(0)", x.stabilise(0));
        yes("get(255, 9)", x.get(255, 9));
        due("ASK to 0", x.message(0), 6 * 256);
        due("ASK to 255", x.message(1), 6 * 256 + 255);
        due("FIND to 255", x.message(2), 256 + 255);
        for (int k : new int[] {-1, 3, 19, 20, 21, Integer.MIN_VALUE, Integer.MAX_VALUE}) {
            due("message(" + k + ")", x.message(k), NONE);
        }
        due("flying", x.flying(), 3);
        due("deliver(1)", x.deliver(1), 6);
        due("ASK to 0", x.message(0), 6 * 256);
        due("FIND to 255", x.message(1), 256 + 255);
        due("TELL to 0", x.message(2), 7 * 256);
        fill(x, 0);
        due("message(19)", x.message(19), 256);
        due("message(20)", x.message(20), NONE);
    }

    private static void successor() {
        FingerOverlay x = alone(0);
        due("itself", x.successor(0), 0);
        due("no node", x.successor(1), NONE);
        yes("join(255, 0)", x.join(255, 0));
        due("joining", x.successor(255), NONE);
        pumpAll(x);
        due("member", x.successor(255), 0);
        for (int id : NO_IDS) {
            due("successor(" + id + ")", x.successor(id), NONE);
        }
    }

    private static void predecessor() {
        FingerOverlay x = alone(0);
        due("none", x.predecessor(0), NONE);
        due("no node", x.predecessor(1), NONE);
        yes("join(255, 0)", x.join(255, 0));
        due("joining", x.predecessor(255), NONE);
        pumpAll(x);
        due("new member", x.predecessor(255), NONE);
        due("none yet", x.predecessor(0), NONE);
        stabiliseNow(x, 255);
        due("told by NOTIFY", x.predecessor(0), 255);
        stabiliseNow(x, 0);
        due("told by NOTIFY", x.predecessor(255), 0);
        for (int id : NO_IDS) {
            due("predecessor(" + id + ")", x.predecessor(id), NONE);
        }
    }

    private static void finger() {
        FingerOverlay x = alone(10);
        yes("join(138, 10)", x.join(138, 10));
        yes("fix(10, 7)", x.fix(10, 7));
        due("finger of a joining node", x.finger(138, 7), NONE);
        pumpAll(x);
        due("itself, for 10 had no other successor", x.finger(10, 7), 10);
        due("none", x.finger(10, 6), NONE);
        due("no node", x.finger(11, 7), NONE);
        due("finger of a new member", x.finger(138, 7), NONE);
        for (int j : new int[] {-1, 8, 9, Integer.MIN_VALUE, Integer.MAX_VALUE}) {
            due("finger(10, " + j + ")", x.finger(10, j), NONE);
            due("finger(11, " + j + ")", x.finger(11, j), NONE);
        }
        for (int id : NO_IDS) {
            due("finger(" + id + ", 7)", x.finger(id, 7), NONE);
        }
        for (int j = 0; j < 8; j++) {
            fixNow(x, 10, j);
            due("finger(10, " + j + ")", x.finger(10, j), 10);
        }
        stabiliseNow(x, 138);
        stabiliseNow(x, 10);
        due("a finger stays until it is fixed", x.finger(10, 7), 10);
        fixNow(x, 10, 7);
        due("finger(10, 7)", x.finger(10, 7), 138);
        due("finger(10, 6)", x.finger(10, 6), 10);
    }

    private static void entry() {
        FingerOverlay x = alone(10);
        due("none", x.entry(10, 5), ABSENT);
        putNow(x, 10, 5, 0);
        due("a value of 0", x.entry(10, 5), 0);
        putNow(x, 10, 5, -1);
        due("a value of -1", x.entry(10, 5), -1);
        putNow(x, 10, 6, Integer.MIN_VALUE);
        due("the least value", x.entry(10, 6), Integer.MIN_VALUE);
        putNow(x, 10, 7, Integer.MAX_VALUE);
        due("the greatest value", x.entry(10, 7), Integer.MAX_VALUE);
        yes("join(20, 10)", x.join(20, 10));
        due("joining", x.entry(20, 5), ABSENT);
        pumpAll(x);
        due("member without it", x.entry(20, 5), ABSENT);
        due("no node", x.entry(21, 5), ABSENT);
        for (int id : NO_IDS) {
            due("entry(" + id + ", 5)", x.entry(id, 5), ABSENT);
            due("entry(10, " + id + ")", x.entry(10, id), ABSENT);
        }
    }

    private static void entries() {
        FingerOverlay x = alone(10);
        due("none", x.entries(10), 0);
        for (int key = 0; key < 10; key++) {
            yes("put", x.put(10, key, key));
        }
        due("before STORE", x.entries(10), 0);
        pumpAll(x);
        due("ten", x.entries(10), 10);
        putNow(x, 10, 3, 33);
        due("the same key again", x.entries(10), 10);
        yes("join(4, 10)", x.join(4, 10));
        due("joining", x.entries(4), NONE);
        pumpAll(x);
        due("new member", x.entries(4), 0);
        stabiliseNow(x, 4);
        due("handed over", x.entries(4), 5);
        due("kept", x.entries(10), 5);
        due("no node", x.entries(11), NONE);
        for (int id : NO_IDS) {
            due("entries(" + id + ")", x.entries(id), NONE);
        }
    }

    private static void answer() {
        FingerOverlay x = alone(10);
        due("none yet", x.answer(10), NOTHING);
        putNow(x, 10, 1, -1);
        due("put gives none", x.answer(10), NOTHING);
        fixNow(x, 10, 0);
        due("FOUND gives none", x.answer(10), NOTHING);
        getNow(x, 10, 1);
        due("a value", x.answer(10), -1);
        getNow(x, 10, 2);
        due("no entry", x.answer(10), ABSENT);
        yes("get", x.get(10, 1));
        yes("get", x.get(10, 2));
        due("pump", x.pump(4), 4);
        due("the later REPLY first", x.deliver(1), 5);
        due("no entry", x.answer(10), ABSENT);
        due("the earlier REPLY last", x.deliver(0), 5);
        due("the latest that arrived", x.answer(10), -1);
        yes("join(20, 10)", x.join(20, 10));
        due("joining", x.answer(20), NOTHING);
        pumpAll(x);
        due("new member", x.answer(20), NOTHING);
        due("no node", x.answer(21), NOTHING);
        for (int id : NO_IDS) {
            due("answer(" + id + ")", x.answer(id), NOTHING);
        }
        putNow(x, 10, 1, 5);
        due("an answer stays", x.answer(10), -1);
    }

    private static void hops() {
        FingerOverlay x = ring(0, 50, 100);
        due("at first", x.hops(50), 0);
        getNow(x, 0, 150);
        due("of the REPLY", x.hops(0), 2);
        fixNow(x, 0, 6);
        due("of the FOUND for a finger", x.hops(0), 1);
        due("answer stays", x.answer(0), ABSENT);
        putNow(x, 0, 150, 1);
        due("put changes none", x.hops(0), 1);
        stabiliseNow(x, 0);
        due("stabilise changes none", x.hops(0), 1);
        getNow(x, 0, 1);
        due("0 again", x.hops(0), 0);
        yes("join(120, 50)", x.join(120, 50));
        due("joining", x.hops(120), 0);
        pumpAll(x);
        due("of the FOUND for the join", x.hops(120), 1);
        due("others", x.hops(50), 0);
        due("no node", x.hops(121), NONE);
        for (int id : NO_IDS) {
            due("hops(" + id + ")", x.hops(id), NONE);
        }
    }

    private static void owner() {
        FingerOverlay x = alone(10);
        due("alone", x.owner(0), 10);
        due("alone", x.owner(11), 10);
        due("alone", x.owner(255), 10);
        yes("join(80, 10)", x.join(80, 10));
        due("a joining node owns nothing", x.owner(80), 10);
        pumpAll(x);
        due("the key included", x.owner(80), 80);
        due("the key included", x.owner(10), 10);
        due("one more", x.owner(11), 80);
        due("round the circle", x.owner(81), 10);
        due("round the circle", x.owner(255), 10);
        due("round the circle", x.owner(0), 10);
        joinNow(x, 255, 10);
        joinNow(x, 0, 10);
        due("255", x.owner(255), 255);
        due("81", x.owner(81), 255);
        due("0", x.owner(0), 0);
        due("1", x.owner(1), 10);
        for (int id : NO_IDS) {
            due("owner(" + id + ")", x.owner(id), NONE);
        }
    }

    private static void wrong() {
        FingerOverlay x = alone(50);
        due("none is not right", x.wrong(), 9);
        stabiliseNow(x, 50);
        due("alone, itself is right", x.wrong(), 8);
        for (int j = 0; j < 8; j++) {
            fixNow(x, 50, j);
            due("fingers of the member alone", x.wrong(), 7 - j);
        }
        yes("join(178, 50)", x.join(178, 50));
        due("a joining node does not count", x.wrong(), 0);
        pumpAll(x);
        due("all of 50 is wrong, and all of 178 but its successor", x.wrong(), 10 + 9);
        stabiliseNow(x, 178);
        due("predecessor(50) is right", x.wrong(), 18);
        stabiliseNow(x, 50);
        due("successor(50) and predecessor(178) are right", x.wrong(), 16);
        for (int j = 0; j < 8; j++) {
            fixNow(x, 50, j);
            due("50's finger " + j, x.wrong(), 15 - j);
        }
        due("50 + 128, that id included", x.finger(50, 7), 178);
        for (int j = 0; j < 8; j++) {
            fixNow(x, 178, j);
            due("178's finger " + j, x.wrong(), 7 - j);
        }
        due("178 + 128 is 50", x.finger(178, 7), 50);
        due("neighbours: fingers alone are wrong", ring(49, 50, 51).wrong(), 24);
        due("neighbours round the circle", ring(0, 1, 255).wrong(), 24);
    }

    private static void misplaced() {
        FingerOverlay x = alone(200);
        putNow(x, 200, 50, 1);
        putNow(x, 200, 100, 2);
        putNow(x, 200, 101, 3);
        putNow(x, 200, 200, 4);
        putNow(x, 200, 201, 5);
        due("alone", x.misplaced(), 0);
        yes("join(100, 200)", x.join(100, 200));
        due("pump", x.pump(1), 1);
        due("a joining node owns nothing", x.misplaced(), 0);
        due("pump", x.pump(1), 1);
        due("50, 100 and 201 are 100's", x.misplaced(), 3);
        stabiliseNow(x, 100);
        due("handed over", x.misplaced(), 0);
        joinNow(x, 60, 200);
        due("50 and 201 are 60's", x.misplaced(), 2);
        joinNow(x, 205, 200);
        due("201 is 205's, 50 is 60's", x.misplaced(), 2);
        yes("put(200, 201, 9)", x.put(200, 201, 9));
        pumpAll(x);
        due("both entries for 201, at 100 and at 200, count", x.misplaced(), 3);
    }
}
