/**
 * The boundary sentences of promises 2 to 9: each condition by itself, with the last value that is taken and the
 * first that is refused. Behind each refusal all other calls are looked at.
 */
public final class RefusalEdges extends Edges {
    /** No fingers; some of them would be one if only their last bits were looked at, as a shift does. */
    private static final int[] NO_FINGERS = {-1, 8, 31, 32, 39, -32, LEAST, GREATEST};

    public static void main(String[] args) {
        section("Promise 2: create");
        test("its successor is itself, it has no predecessor, no fingers, no entries", RefusalEdges::theFirstNode);
        test("refused with false if id is not 0 .. 255", RefusalEdges::createNoId);
        test("or there is a node", RefusalEdges::createWithANode);

        section("Promise 3: join");
        test("FIND for its id, purpose JOIN, goes to the member via; the new node is the asker",
                RefusalEdges::joinSends);
        test("refused with false if id is not 0 .. 255", RefusalEdges::joinNoId);
        test("or is a node's", RefusalEdges::joinANodesId);
        test("via is no member's id", RefusalEdges::joinViaNoMember);
        test("there are 12 nodes", RefusalEdges::joinWith12Nodes);
        test("or 20 messages", RefusalEdges::joinWith20Messages);

        section("Promise 4: stabilise");
        test("ASK goes from the member with that id to its successor", RefusalEdges::stabiliseSends);
        test("refused with false if id is no member's", RefusalEdges::stabiliseNoMember);
        test("or there are 20 messages", RefusalEdges::stabiliseWith20Messages);

        section("Promise 5: fix");
        test("FIND for the id that is 2 to the power of j more (round the circle)", RefusalEdges::fixRoundTheCircle);
        test("refused with false if id is no member's", RefusalEdges::fixNoMember);
        test("j is not 0 .. 7", RefusalEdges::fixNoFinger);
        test("or there are 20 messages", RefusalEdges::fixWith20Messages);

        section("Promise 6: put");
        test("FIND for the key, purpose PUT with the value, goes from the member with that id to itself",
                RefusalEdges::putSends);
        test("refused with false if id is no member's", RefusalEdges::putNoMember);
        test("key is not 0 .. 255", RefusalEdges::putNoKey);
        test("there are 20 messages", RefusalEdges::putWith20Messages);
        test("put() answered true for ten other keys", RefusalEdges::putTheEleventhKey);
        test("and not for this one, before", RefusalEdges::putOneOfTheTen);
        test("put() answered true for ten other keys, and not for this one, before",
                RefusalEdges::refusedPutsAreNoKeys);

        section("Promise 7: get");
        test("FIND for the key, purpose GET, goes from the member with that id to itself", RefusalEdges::getSends);
        test("refused with false if id is no member's", RefusalEdges::getNoMember);
        test("key is not 0 .. 255", RefusalEdges::getNoKey);
        test("or there are 20 messages", RefusalEdges::getWith20Messages);

        section("Promise 8: deliver");
        test("Message k arrives. Answers its kind", RefusalEdges::deliverEachKind);
        test("NONE (refused) if there is no such message", RefusalEdges::deliverNoMessage);

        section("Promise 9: pump");
        test("(what is sent meanwhile, too)", RefusalEdges::pumpWhatIsSentMeanwhile);
        test("n times or until none is in flight", RefusalEdges::pumpUntilNoneIsInFlight);
        test("NONE (refused) if n is not 1 .. 8", RefusalEdges::pumpNoNumber);
        finish();
    }

    private static void theFirstNode() {
        for (int id : new int[] {0, 1, 128, 254, 255}) {
            Run x = new Run();
            x.create(id).is(true);
            x.successor(id).is(id);
            x.predecessor(id).is(NONE);
            for (int j = 0; j < 8; j++) {
                x.finger(id, j).is(NONE);
            }
            x.entries(id).is(0);
            x.flying().is(0);
        }
    }

    private static void createNoId() {
        new Run().create(0).is(true);
        new Run().create(255).is(true);
        for (int id : NO_IDS) {
            refused(Run::new, x -> x.create(id));
        }
        Run x = new Run();
        x.create(-1).is(false);
        x.create(256).is(false);
        x.create(255).is(true);
    }

    private static void createWithANode() {
        for (int id : new int[] {0, 9, 10, 11, 255, -1, 256}) {
            refused(() -> alone(10), x -> x.create(id));
        }
        refused(() -> joining(10, 80, false), x -> x.create(80));
        refused(() -> joining(10, 80, true), x -> x.create(81));
        refused(() -> ring(10, 80), x -> x.create(80));
        refused(() -> flying(20, 10), x -> x.create(20));
    }

    private static void joinSends() {
        Run x = ring(10, 80);
        x.join(20, 80).is(true);
        x.flying().is(1);
        x.message(0).is(FIND + 80);
        x.deliver(0).is(1);
        x.message(0).is(FIND + 10);
        x.deliver(0).is(1);
        x.message(0).is(FOUND + 20);
        x.hops(20).is(0);
        x.deliver(0).is(2);
        x.successor(20).is(80);
        x.hops(20).is(1);
    }

    private static void joinNoId() {
        for (int id : new int[] {0, 1, 254, 255}) {
            Run x = alone(10);
            x.join(id, 10).is(true);
            x.message(0).is(FIND + 10);
            x.hops(id).is(0);
        }
        for (int id : NO_IDS) {
            refused(() -> alone(10), x -> x.join(id, 10));
        }
    }

    private static void joinANodesId() {
        refused(() -> alone(10), x -> x.join(10, 10));
        refused(() -> ring(10, 80), x -> x.join(10, 80));
        refused(() -> ring(10, 80), x -> x.join(80, 10));
        refused(() -> joining(10, 80, false), x -> x.join(80, 10));
        refused(() -> joining(10, 80, true), x -> x.join(80, 10));
        Run x = ring(10, 80);
        x.join(79, 10).is(true);
        x.join(81, 10).is(true);
        x.join(9, 10).is(true);
        x.join(11, 10).is(true);
    }

    private static void joinViaNoMember() {
        refused(Run::new, x -> x.join(10, 20));
        refused(Run::new, x -> x.join(10, 10));
        for (int via : new int[] {0, 9, 11, 30, 255}) {
            refused(() -> alone(10), x -> x.join(30, via));
        }
        for (int via : NO_IDS) {
            refused(() -> alone(10), x -> x.join(30, via));
        }
        refused(() -> joining(10, 80, false), x -> x.join(30, 80));
        refused(() -> joining(10, 80, true), x -> x.join(30, 80));
        Run x = joining(10, 80, true);
        x.deliver(0).is(2);
        x.join(30, 80).is(true);
        x.message(0).is(FIND + 80);
    }

    private static void joinWith12Nodes() {
        nodes(11, false).join(50, 100).is(true);
        nodes(11, true).join(50, 100).is(true);
        refused(() -> nodes(12, false), x -> x.join(50, 100));
        refused(() -> nodes(12, true), x -> x.join(50, 100));
        refused(() -> nodes(12, true), x -> x.join(50, 0));
    }

    /** So many nodes, 100 the first of them; the others are members or joining all. */
    private static Run nodes(int count, boolean members) {
        Run x = alone(100);
        for (int id = 0; id < count - 1; id++) {
            x.join(id, 100).is(true);
        }
        if (members) {
            x.pumpAll();
        }
        return x;
    }

    private static void joinWith20Messages() {
        Run x = flying(19, 10);
        x.join(30, 10).is(true);
        x.flying().is(20);
        x.message(19).is(FIND + 10);
        refused(() -> flying(20, 10), y -> y.join(30, 10));
        Run again = flying(20, 10);
        again.join(30, 10).is(false);
        again.pump(8).is(8);
        again.flying().is(20);
        again.join(30, 10).is(false);
        again.pumpAll();
        again.join(30, 10).is(true);
    }

    private static void stabiliseSends() {
        Run x = ring(10, 80);
        x.stabilise(10).is(true);
        x.stabilise(80).is(true);
        x.message(0).is(ASK + 80);
        x.message(1).is(ASK + 10);
        x.pump(2).is(2);
        x.message(0).is(TELL + 10);
        x.message(1).is(TELL + 80);
        Run y = alone(10);
        y.stabilise(10).is(true);
        y.message(0).is(ASK + 10);
    }

    private static void stabiliseNoMember() {
        refused(Run::new, x -> x.stabilise(0));
        for (int id : new int[] {0, 9, 11, 255}) {
            refused(() -> alone(10), x -> x.stabilise(id));
        }
        for (int id : NO_IDS) {
            refused(() -> alone(10), x -> x.stabilise(id));
        }
        refused(() -> joining(10, 80, false), x -> x.stabilise(80));
        refused(() -> joining(10, 80, true), x -> x.stabilise(80));
        ring(0, 255).stabilise(0).is(true);
        ring(0, 255).stabilise(255).is(true);
    }

    private static void stabiliseWith20Messages() {
        Run x = flying(19, 10);
        x.stabilise(10).is(true);
        x.flying().is(20);
        x.message(19).is(ASK + 10);
        refused(() -> flying(20, 10), y -> y.stabilise(10));
    }

    /** A member stands at the id that is asked for, and mostly one behind it, so that another id would show. */
    private static void fixRoundTheCircle() {
        int[][] cases = {{255, 0, 0}, {255, 7, 127}, {128, 7, 0}, {127, 7, 255}, {200, 6, 8}, {192, 6, 0},
            {191, 6, 255}, {254, 0, 255}, {254, 1, 0}, {0, 0, 1}, {0, 7, 128}, {10, 3, 18}};
        for (int[] c : cases) {
            int asked = c[2];
            Run x = alone(c[0]);
            x.joinNow(asked, c[0]);
            x.stabiliseNow(asked);
            x.stabiliseNow(c[0]);
            if ((asked + 1) % 256 != c[0]) {
                int behind = (asked + 1) % 256;
                x.joinNow(behind, c[0]);
                x.stabiliseNow(behind);
                x.stabiliseNow(asked);
            }
            x.fix(c[0], c[1]).is(true);
            x.message(0).is(FIND + c[0]);
            x.pumpAll();
            x.finger(c[0], c[1]).is(asked);
        }
    }

    private static void fixNoMember() {
        refused(Run::new, x -> x.fix(0, 0));
        for (int id : new int[] {0, 9, 11, 255}) {
            refused(() -> alone(10), x -> x.fix(id, 0));
        }
        for (int id : NO_IDS) {
            refused(() -> alone(10), x -> x.fix(id, 0));
        }
        refused(() -> joining(10, 80, false), x -> x.fix(80, 0));
        refused(() -> joining(10, 80, true), x -> x.fix(80, 7));
        ring(0, 255).fix(0, 0).is(true);
        ring(0, 255).fix(255, 0).is(true);
    }

    private static void fixNoFinger() {
        for (int j = 0; j <= 7; j++) {
            Run x = alone(10);
            x.fixNow(10, j);
            x.finger(10, j).is(10);
            x.wrong().is(8);
        }
        for (int j : NO_FINGERS) {
            refused(() -> ring(10, 80), x -> x.fix(10, j));
        }
    }

    private static void fixWith20Messages() {
        Run x = flying(19, 10);
        x.fix(10, 0).is(true);
        x.flying().is(20);
        x.message(19).is(FIND + 10);
        refused(() -> flying(20, 10), y -> y.fix(10, 0));
    }

    private static void putSends() {
        Run x = ring(10, 80);
        x.put(80, 50, 5).is(true);
        x.flying().is(1);
        x.message(0).is(FIND + 80);
        x.deliver(0).is(1);
        x.message(0).is(FIND + 10);
        x.deliver(0).is(1);
        x.message(0).is(STORE + 80);
        x.deliver(0).is(3);
        x.entry(80, 50).is(5);
        x.flying().is(0);
    }

    private static void putNoMember() {
        refused(Run::new, x -> x.put(0, 0, 0));
        for (int id : new int[] {0, 9, 11, 255}) {
            refused(() -> alone(10), x -> x.put(id, 10, 1));
        }
        for (int id : NO_IDS) {
            refused(() -> alone(10), x -> x.put(id, 10, 1));
        }
        refused(() -> joining(10, 80, false), x -> x.put(80, 10, 1));
        refused(() -> joining(10, 80, true), x -> x.put(80, 10, 1));
        ring(0, 255).put(0, 10, 1).is(true);
        ring(0, 255).put(255, 10, 1).is(true);
    }

    private static void putNoKey() {
        for (int key : new int[] {0, 1, 254, 255}) {
            Run x = alone(10);
            x.putNow(10, key, 7);
            x.entry(10, key).is(7);
            x.entries(10).is(1);
        }
        for (int key : NO_IDS) {
            refused(() -> alone(10), x -> x.put(10, key, 1));
            refused(() -> keysPut(9), x -> x.put(10, key, 1));
        }
    }

    private static void putWith20Messages() {
        Run x = flying(19, 10);
        x.put(10, 1, 1).is(true);
        x.flying().is(20);
        x.message(19).is(FIND + 10);
        refused(() -> flying(20, 10), y -> y.put(10, 1, 1));
        refused(RefusalEdges::nineKeysAnd20Messages, y -> y.put(10, 109, 1));
        refused(RefusalEdges::nineKeysAnd20Messages, y -> y.put(10, 100, 1));
        Run late = nineKeysAnd20Messages();
        late.put(10, 109, 1).is(false);
        late.pumpAll();
        late.put(10, 110, 1).is(true);
        late.put(10, 109, 1).is(false);
    }

    private static Run nineKeysAnd20Messages() {
        Run x = keysPut(9);
        x.fillUpTo(20, 10);
        return x;
    }

    /** So many keys were put, from 100 on; they have all arrived. */
    private static Run keysPut(int count) {
        Run x = alone(10);
        for (int i = 0; i < count; i++) {
            x.putNow(10, 100 + i, i);
        }
        return x;
    }

    private static void putTheEleventhKey() {
        Run x = keysPut(9);
        x.put(10, 109, 9).is(true);
        x.put(10, 110, 10).is(false);
        for (int key : new int[] {0, 99, 110, 255}) {
            refused(() -> keysPut(10), y -> y.put(10, key, 1));
        }
        Run inFlight = alone(10);
        for (int key = 0; key < 10; key++) {
            inFlight.put(10, key, key).is(true);
        }
        inFlight.put(10, 10, 10).is(false);
        inFlight.flying().is(10);
        inFlight.pumpAll();
        inFlight.put(10, 10, 10).is(false);
        inFlight.entries(10).is(10);
        inFlight.get(10, 10).is(true);

        Run others = ring(10, 80);
        for (int key = 0; key < 10; key++) {
            others.putNow(key % 2 == 0 ? 10 : 80, 5 + 5 * key, key);
        }
        others.entries(10).is(2);
        others.entries(80).is(8);
        others.put(10, 200, 1).is(false);
        others.put(80, 200, 1).is(false);
        others.put(80, 5, 1).is(true);
        others.put(10, 50, 1).is(true);
    }

    private static void putOneOfTheTen() {
        Run x = keysPut(10);
        for (int i = 0; i < 10; i++) {
            x.putNow(10, 100 + i, 50 + i);
            x.entry(10, 100 + i).is(50 + i);
        }
        x.entries(10).is(10);
        Run same = alone(10);
        for (int i = 0; i < 15; i++) {
            same.putNow(10, 0, i);
        }
        for (int key = 247; key <= 255; key++) {
            same.putNow(10, key, key);
        }
        same.put(10, 1, 1).is(false);
        same.putNow(10, 0, 99);
        same.putNow(10, 255, 98);
        same.entry(10, 0).is(99);
        same.entry(10, 255).is(98);
        same.entries(10).is(10);
    }

    /** Only a put that answered true takes a place among the ten, and a get takes none. */
    private static void refusedPutsAreNoKeys() {
        Run x = joining(10, 80, true);
        for (int key = 0; key < 12; key++) {
            x.put(80, key, 1).is(false);
            x.put(81, 20 + key, 1).is(false);
            x.put(10, 256 + key, 1).is(false);
            x.put(10, -1 - key, 1).is(false);
            x.get(10, 40 + key).is(true);
        }
        x.fillUpTo(20, 10);
        for (int key = 60; key < 72; key++) {
            x.put(10, key, 1).is(false);
        }
        x.pumpAll();
        for (int key = 100; key < 110; key++) {
            x.put(10, key, key).is(true);
        }
        for (int key = 0; key < 100; key++) {
            x.put(10, key, 1).is(false);
        }
        x.pumpAll();
        x.entries(10).is(10);
    }

    private static void getSends() {
        Run x = ring(10, 80);
        x.get(80, 50).is(true);
        x.flying().is(1);
        x.message(0).is(FIND + 80);
        x.deliver(0).is(1);
        x.message(0).is(FIND + 10);
        x.deliver(0).is(1);
        x.message(0).is(FETCH + 80);
        x.deliver(0).is(4);
        x.message(0).is(REPLY + 80);
        x.deliver(0).is(5);
        x.answer(80).is(ABSENT);
        x.hops(80).is(1);
        x.flying().is(0);
    }

    private static void getNoMember() {
        refused(Run::new, x -> x.get(0, 0));
        for (int id : new int[] {0, 9, 11, 255}) {
            refused(() -> alone(10), x -> x.get(id, 10));
        }
        for (int id : NO_IDS) {
            refused(() -> alone(10), x -> x.get(id, 10));
        }
        refused(() -> joining(10, 80, false), x -> x.get(80, 10));
        refused(() -> joining(10, 80, true), x -> x.get(80, 10));
        ring(0, 255).get(0, 10).is(true);
        ring(0, 255).get(255, 10).is(true);
    }

    private static void getNoKey() {
        for (int key : new int[] {0, 1, 254, 255}) {
            Run x = alone(10);
            x.get(10, key).is(true);
            x.pump(8).is(3);
            x.answer(10).is(ABSENT);
        }
        for (int key : NO_IDS) {
            refused(() -> alone(10), x -> x.get(10, key));
        }
    }

    private static void getWith20Messages() {
        Run x = flying(19, 10);
        x.get(10, 1).is(true);
        x.flying().is(20);
        x.message(19).is(FIND + 10);
        refused(() -> flying(20, 10), y -> y.get(10, 1));
    }

    private static void deliverEachKind() {
        Run x = alone(10);
        x.put(10, 5, 3).is(true);
        x.deliver(0).is(1);
        x.deliver(0).is(3);
        x.get(10, 5).is(true);
        x.deliver(0).is(1);
        x.deliver(0).is(4);
        x.deliver(0).is(5);
        x.fix(10, 0).is(true);
        x.deliver(0).is(1);
        x.deliver(0).is(2);
        x.stabilise(10).is(true);
        x.deliver(0).is(6);
        x.deliver(0).is(7);
        x.deliver(0).is(8);
        x.deliver(0).is(NONE);
    }

    private static void deliverNoMessage() {
        for (int k : new int[] {0, -1, 1, 19, 20, 21, LEAST, GREATEST}) {
            refused(Run::new, x -> x.deliver(k));
            refused(() -> alone(10), x -> x.deliver(k));
        }
        for (int k : new int[] {-1, 3, 4, 19, 20, LEAST, GREATEST}) {
            refused(() -> flying(3, 10), x -> x.deliver(k));
        }
        for (int k : new int[] {-1, 20, 21, LEAST, GREATEST}) {
            refused(() -> flying(20, 10), x -> x.deliver(k));
        }
        flying(3, 10).deliver(0).is(1);
        flying(3, 10).deliver(2).is(1);
        flying(20, 10).deliver(19).is(1);
        Run emptied = flying(1, 10);
        emptied.pumpAll();
        emptied.deliver(0).is(NONE);
        emptied.flying().is(0);
    }

    private static void pumpWhatIsSentMeanwhile() {
        Run x = alone(10);
        x.get(10, 1).is(true);
        x.pump(8).is(3);
        x.flying().is(0);
        x.answer(10).is(ABSENT);
        x.stabilise(10).is(true);
        x.pump(3).is(3);
        x.predecessor(10).is(10);
        x.get(10, 1).is(true);
        x.stabilise(10).is(true);
        x.pump(3).is(3);
        x.message(0).is(TELL + 10);
        x.message(1).is(REPLY + 10);
    }

    private static void pumpUntilNoneIsInFlight() {
        for (int n = 1; n <= 8; n++) {
            Run none = alone(10);
            none.pump(n).is(0);
            none.flying().is(0);
            new Run().pump(n).is(0);
            Run three = alone(10);
            three.get(10, 1).is(true);
            three.pump(n).is(Math.min(n, 3));
            three.flying().is(n < 3 ? 1 : 0);
            three.answer(10).is(n < 3 ? NOTHING : ABSENT);
        }
        Run seven = threeCalls(2, 2, 3);
        seven.pump(8).is(7);
        seven.flying().is(0);
        Run eight = threeCalls(2, 3, 3);
        eight.pump(8).is(8);
        eight.flying().is(0);
        eight.pump(8).is(0);
        Run nine = threeCalls(3, 3, 3);
        nine.pump(8).is(8);
        nine.flying().is(1);
        nine.pump(8).is(1);
        nine.pump(1).is(0);
        Run many = flying(20, 10);
        many.pump(8).is(8);
        many.flying().is(20);
        many.message(11).is(FIND + 10);
        many.message(12).is(FETCH + 10);
    }

    /** Calls after which two messages arrive (put) or three (get). */
    private static Run threeCalls(int... arrivals) {
        Run x = alone(10);
        for (int count : arrivals) {
            if (count == 2) {
                x.put(10, 1, 1).is(true);
            } else {
                x.get(10, 1).is(true);
            }
        }
        return x;
    }

    private static void pumpNoNumber() {
        flying(20, 10).pump(1).is(1);
        flying(20, 10).pump(8).is(8);
        for (int n : new int[] {0, -1, 9, 257, -255, LEAST, GREATEST}) {
            refused(Run::new, x -> x.pump(n));
            refused(() -> alone(10), x -> x.pump(n));
            refused(() -> flying(3, 10), x -> x.pump(n));
            refused(() -> flying(20, 10), x -> x.pump(n));
        }
    }
}
