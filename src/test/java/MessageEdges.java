/** The boundary sentences of "Terms" about what each kind of message does when it arrives. */
public final class MessageEdges extends Edges {
    public static void main(String[] args) {
        section("Terms");
        test("When it ARRIVES there, it is taken out of the row, and then, by its kind, the following is done",
                MessageEdges::whatHoldsWhenItArrives);
        test("a number of hops, 0 when a call sends it", MessageEdges::hopsAre0AtFirst);
        test("If the key is past n up to n's successor, then", MessageEdges::eachPurposeAtTheLastMember);
        test("purpose JOIN or FINGER: FOUND goes to the asker with n's successor and the hops",
                MessageEdges::foundHasTheSuccessorAndTheHops);
        test("purpose PUT: STORE goes to n's successor with key and value", MessageEdges::storeHasKeyAndValue);
        test("purpose GET: FETCH goes to n's successor with key, asker and hops", MessageEdges::fetchHasKeyAskerHops);
        test("Otherwise the same FIND, with one hop more, goes to another member", MessageEdges::oneHopMore);
        test("of n's fingers that are between n and the key the one with the greatest number",
                MessageEdges::theGreatestNumber);
        test("of n's fingers that are between n and the key", MessageEdges::eachFingerCounts);
        test("or, if there is none, n's successor", MessageEdges::ifThereIsNoneTheSuccessor);

        test("the member found becomes n's successor, and n, which has no predecessor, no fingers and no entries,"
                + " a member", MessageEdges::foundMakesAMember);
        test("the member found becomes the finger that was asked for", MessageEdges::foundSetsOneFinger);
        test("n's hops become those of the message", MessageEdges::foundSetsTheHops);
        test("n's entry for the key has that value from now on", MessageEdges::storeReplaces);
        test("REPLY goes to the asker with the value of n's entry for the key, or that there is none, and the hops",
                MessageEdges::fetchFindsNone);
        test("n's answer and hops become those of the message", MessageEdges::replyReplaces);

        test("TELL goes to m with n's predecessor, or that there is none", MessageEdges::askFindsNone);
        test("if a member is told that is between n and n's successor, it becomes n's successor",
                MessageEdges::toldAtTheEdges);
        test("Then, in any case, NOTIFY goes from n to n's successor", MessageEdges::notifyInAnyCase);
        test("if n has no predecessor", MessageEdges::notifiedWithoutAPredecessor);
        test("or m is between n's predecessor and n, then m becomes n's predecessor",
                MessageEdges::notifiedFromBetween);
        test("all entries of n whose keys are not past m up to n go over to m", MessageEdges::keysThatGoOver);
        test("all entries of n", MessageEdges::whatNDoesNotHaveStays);
        test("(where m has an entry for such a key, it gets the value of n's)", MessageEdges::goingOverReplaces);
        test("Otherwise nothing is done", MessageEdges::otherwiseNothingIsDone);
        finish();
    }

    /** Between sending and arrival 45 has joined and stabilised: pointers and entries are those of the arrival. */
    private static void whatHoldsWhenItArrives() {
        Run ask = ring(10, 80);
        ask.stabilise(10).is(true);
        ask.joinOver(45, 10);
        ask.predecessor(80).is(45);
        ask.message(0).is(ASK + 80);
        ask.deliver(0).is(6);
        ask.deliver(0).is(7);
        ask.successor(10).is(45);

        Run find = ring(10, 80);
        find.get(10, 40).is(true);
        find.joinOver(45, 10);
        find.stabiliseOver(10);
        find.deliver(0).is(1);
        find.message(0).is(FETCH + 45);

        Run fetch = ring(10, 80);
        fetch.putNow(10, 40, 1);
        fetch.get(10, 40).is(true);
        fetch.deliver(0).is(1);
        fetch.joinOver(45, 10);
        fetch.message(0).is(FETCH + 80);
        fetch.deliver(0).is(4);
        fetch.putNow(10, 40, 2);
        fetch.answer(10).is(ABSENT);

        Run reply = alone(10);
        reply.putNow(10, 40, 1);
        reply.get(10, 40).is(true);
        reply.pump(2).is(2);
        reply.put(10, 40, 2).is(true);
        reply.deliver(1).is(1);
        reply.deliver(1).is(3);
        reply.deliver(0).is(5);
        reply.answer(10).is(1);
        reply.entry(10, 40).is(2);

        Run none = alone(10);
        none.stabilise(10).is(true);
        none.joinOver(80, 10);
        none.deliver(0).is(6);
        none.deliver(0).is(7);
        none.successor(10).is(80);
    }

    /** Behind messages that had hops, so that what was in the row before does not matter. */
    private static void hopsAre0AtFirst() {
        Run x = ring(0, 50, 100, 150);
        x.getNow(0, 160);
        x.hops(0).is(3);
        x.getNow(0, 50);
        x.hops(0).is(0);
        x.getNow(0, 160);
        x.fixNow(0, 0);
        x.hops(0).is(0);
        x.getNow(0, 160);
        x.joinNow(20, 0);
        x.hops(20).is(0);
        x.putNow(0, 160, 1);
        x.hops(0).is(3);
    }

    private static void eachPurposeAtTheLastMember() {
        for (int key : new int[] {11, 45, 80}) {
            Run x = ring(10, 80);
            x.put(10, key, 1).is(true);
            x.deliver(0).is(1);
            x.message(0).is(STORE + 80);
            x.deliver(0).is(3);
            x.get(10, key).is(true);
            x.deliver(0).is(1);
            x.message(0).is(FETCH + 80);
            x.pumpAll();
        }
        for (int id : new int[] {11, 45, 79}) {
            Run y = ring(10, 80);
            y.join(id, 10).is(true);
            y.deliver(0).is(1);
            y.message(0).is(FOUND + id);
            y.deliver(0).is(2);
            y.successor(id).is(80);
        }
        Run z = ring(10, 74);
        z.fix(10, 0).is(true);
        z.deliver(0).is(1);
        z.message(0).is(FOUND + 10);
        z.pumpAll();
        z.fix(10, 6).is(true);
        z.deliver(0).is(1);
        z.message(0).is(FOUND + 10);
        z.pumpAll();
        z.fix(10, 7).is(true);
        z.deliver(0).is(1);
        z.message(0).is(FIND + 74);
    }

    private static void foundHasTheSuccessorAndTheHops() {
        Run x = ring(0, 50, 100, 150);
        x.join(120, 0).is(true);
        x.pump(3).is(3);
        x.message(0).is(FOUND + 120);
        x.deliver(0).is(2);
        x.successor(120).is(150);
        x.hops(120).is(2);
        x.fix(0, 7).is(true);
        x.pump(3).is(3);
        x.message(0).is(FOUND + 0);
        x.deliver(0).is(2);
        x.finger(0, 7).is(150);
        x.hops(0).is(2);
    }

    private static void storeHasKeyAndValue() {
        Run x = ring(0, 50, 100, 150);
        x.put(0, 150, LEAST).is(true);
        x.put(0, 101, GREATEST).is(true);
        x.put(0, 151, 0).is(true);
        x.pump(6).is(6);
        x.pump(3).is(3);
        x.message(0).is(STORE + 150);
        x.message(1).is(STORE + 150);
        x.message(2).is(FIND + 150);
        x.pumpAll();
        x.entry(150, 150).is(LEAST);
        x.entry(150, 101).is(GREATEST);
        x.entry(0, 151).is(0);
        x.entries(150).is(2);
        x.entries(0).is(1);
        x.answer(0).is(NOTHING);
        x.hops(0).is(0);
    }

    private static void fetchHasKeyAskerHops() {
        Run x = ring(0, 50, 100, 150);
        x.putNow(0, 120, 7);
        x.get(0, 120).is(true);
        x.get(50, 121).is(true);
        x.pump(5).is(5);
        x.message(0).is(FETCH + 150);
        x.message(1).is(FETCH + 150);
        x.pump(2).is(2);
        x.message(0).is(REPLY + 50);
        x.message(1).is(REPLY + 0);
        x.pump(2).is(2);
        x.answer(0).is(7);
        x.hops(0).is(2);
        x.answer(50).is(ABSENT);
        x.hops(50).is(1);
    }

    /** From no hop to eleven, the most that twelve members without fingers can pass a question on. */
    private static void oneHopMore() {
        int[] ids = new int[12];
        for (int i = 0; i < 12; i++) {
            ids[i] = 20 * i;
        }
        Run x = ring(ids);
        for (int i = 1; i < 12; i++) {
            x.getNow(0, ids[i]);
            x.hops(0).is(i - 1);
        }
        x.getNow(0, 0);
        x.hops(0).is(11);
        x.get(0, 0).is(true);
        x.put(0, 239, 1).is(true);
        for (int i = 1; i < 12; i++) {
            x.pump(2).is(2);
            x.message(0).is(FIND + ids[i]);
            x.message(1).is(FIND + ids[i]);
        }
        x.pump(2).is(2);
        x.message(0).is(FETCH + 0);
        x.message(1).is(STORE + 0);
    }

    private static void theGreatestNumber() {
        Run x = ring(0, 10, 40, 130, 200);
        for (int j = 0; j < 8; j++) {
            x.fixNow(0, j);
        }
        goesTo(x, 0, 201, FIND + 130);
        goesTo(x, 0, 131, FIND + 130);
        goesTo(x, 0, 130, FIND + 40);
        goesTo(x, 0, 41, FIND + 40);
        goesTo(x, 0, 40, FIND + 10);
        goesTo(x, 0, 0, FIND + 130);

        Run y = alone(0);
        y.joinNow(200, 0);
        y.stabiliseNow(200);
        y.stabiliseNow(0);
        y.fixNow(0, 3);
        y.finger(0, 3).is(200);
        y.joinNow(40, 0);
        y.stabiliseNow(40);
        y.stabiliseNow(0);
        y.fixNow(0, 5);
        y.finger(0, 5).is(40);
        goesTo(y, 0, 250, FIND + 40);
        y.fixNow(0, 7);
        goesTo(y, 0, 250, FIND + 200);
        goesTo(y, 0, 200, FIND + 40);
    }

    /** The finger was found before 1 joined, so that it is another than the successor. */
    private static void eachFingerCounts() {
        for (int j = 0; j < 8; j++) {
            Run x = ring(0, 200);
            x.fixNow(0, j);
            x.finger(0, j).is(200);
            x.joinNow(1, 0);
            x.stabiliseNow(1);
            x.stabiliseNow(0);
            x.successor(0).is(1);
            goesTo(x, 0, 201, FIND + 200);
            goesTo(x, 0, 0, FIND + 200);
            goesTo(x, 0, 200, FIND + 1);
            goesTo(x, 0, 2, FIND + 1);
        }
    }

    private static void goesTo(Run x, int id, int key, int message) {
        x.get(id, key).is(true);
        x.deliver(0).is(1);
        x.message(0).is(message);
        x.pumpAll();
    }

    /** No finger at all; only fingers that the key is, or is before; only fingers that are the member itself. */
    private static void ifThereIsNoneTheSuccessor() {
        Run x = ring(0, 50, 100, 150);
        goesTo(x, 0, 51, FIND + 50);
        goesTo(x, 0, 0, FIND + 50);
        x.fixNow(0, 7);
        x.finger(0, 7).is(150);
        goesTo(x, 0, 150, FIND + 50);
        goesTo(x, 0, 149, FIND + 50);
        goesTo(x, 0, 151, FIND + 150);
        x.fixNow(150, 7);
        x.finger(150, 7).is(50);
        goesTo(x, 150, 50, FIND + 0);
        goesTo(x, 150, 1, FIND + 0);
        goesTo(x, 150, 51, FIND + 50);

        Run y = alone(0);
        y.fixNow(0, 0);
        y.fixNow(0, 7);
        y.joinNow(50, 0);
        y.stabiliseNow(50);
        y.stabiliseNow(0);
        y.finger(0, 7).is(0);
        goesTo(y, 0, 51, FIND + 50);
        goesTo(y, 0, 255, FIND + 50);
        goesTo(y, 0, 0, FIND + 50);
    }

    private static void foundMakesAMember() {
        Run x = ring(10, 200);
        x.putNow(10, 80, 1);
        x.joinNow(80, 10);
        x.successor(80).is(200);
        x.predecessor(80).is(NONE);
        x.entries(80).is(0);
        x.entry(80, 80).is(ABSENT);
        for (int j = 0; j < 8; j++) {
            x.finger(80, j).is(NONE);
        }
        x.successor(10).is(200);
        x.predecessor(200).is(10);
        x.flying().is(0);
        x.misplaced().is(1);
    }

    private static void foundSetsOneFinger() {
        for (int j = 0; j < 8; j++) {
            Run x = ring(10, 200);
            x.fixNow(10, j);
            for (int other = 0; other < 8; other++) {
                x.finger(10, other).is(other == j ? 200 : NONE);
                x.finger(200, other).is(NONE);
            }
            x.successor(10).is(200);
            x.predecessor(10).is(200);
        }
        Run y = alone(10);
        y.fix(10, 7).is(true);
        y.deliver(0).is(1);
        y.message(0).is(FOUND + 10);
        y.join(138, 10).is(true);
        y.deliver(1).is(1);
        y.deliver(1).is(2);
        y.stabilise(138).is(true);
        y.deliver(1).is(6);
        y.deliver(1).is(7);
        y.deliver(1).is(8);
        y.deliver(0).is(2);
        y.finger(10, 7).is(10);
    }

    private static void foundSetsTheHops() {
        Run x = ring(0, 50, 100, 150);
        x.fix(0, 7).is(true);
        x.fix(0, 0).is(true);
        x.pump(5).is(5);
        x.message(0).is(FOUND + 0);
        x.hops(0).is(0);
        x.pump(1).is(1);
        x.hops(0).is(2);
        x.getNow(0, 160);
        x.hops(0).is(1);
        x.fixNow(0, 5);
        x.hops(0).is(0);
        x.answer(0).is(ABSENT);
        x.joinNow(120, 50);
        x.hops(120).is(1);
        x.answer(120).is(NOTHING);
        x.hops(50).is(0);
    }

    private static void storeReplaces() {
        Run x = alone(10);
        x.put(10, 5, 1).is(true);
        x.put(10, 5, 2).is(true);
        x.pump(2).is(2);
        x.entry(10, 5).is(ABSENT);
        x.deliver(1).is(3);
        x.entry(10, 5).is(2);
        x.deliver(0).is(3);
        x.entry(10, 5).is(1);
        x.entries(10).is(1);
        x.putNow(10, 5, 0);
        x.entry(10, 5).is(0);
        x.entries(10).is(1);
    }

    /** The key was never put, is on its way, or has its entry at another member. */
    private static void fetchFindsNone() {
        Run x = ring(10, 80);
        x.getNow(10, 50);
        x.answer(10).is(ABSENT);
        x.hops(10).is(0);
        x.put(10, 50, 3).is(true);
        x.deliver(0).is(1);
        x.get(10, 50).is(true);
        x.deliver(1).is(1);
        x.deliver(1).is(4);
        x.deliver(0).is(3);
        x.deliver(0).is(5);
        x.answer(10).is(ABSENT);
        x.getNow(10, 50);
        x.answer(10).is(3);
        x.getNow(10, 51);
        x.answer(10).is(ABSENT);
        x.joinNow(60, 10);
        x.stabiliseNow(60);
        x.entry(60, 50).is(3);
        x.get(60, 50).is(true);
        x.pump(3).is(3);
        x.message(0).is(FETCH + 80);
        x.pumpAll();
        x.answer(60).is(ABSENT);
        x.hops(60).is(2);
        x.stabiliseNow(10);
        x.getNow(10, 50);
        x.answer(10).is(3);
    }

    private static void replyReplaces() {
        Run x = ring(0, 50, 100);
        x.putNow(0, 100, -1);
        x.get(0, 100).is(true);
        x.get(0, 40).is(true);
        x.pumpAll();
        x.answer(0).is(-1);
        x.hops(0).is(1);
        x.get(0, 100).is(true);
        x.get(0, 40).is(true);
        x.deliver(0).is(1);
        x.deliver(0).is(1);
        x.deliver(0).is(1);
        x.deliver(0).is(4);
        x.deliver(0).is(4);
        x.message(0).is(REPLY + 0);
        x.message(1).is(REPLY + 0);
        x.answer(0).is(-1);
        x.deliver(1).is(5);
        x.answer(0).is(-1);
        x.hops(0).is(1);
        x.deliver(0).is(5);
        x.answer(0).is(ABSENT);
        x.hops(0).is(0);
        x.answer(50).is(NOTHING);
        x.answer(100).is(NOTHING);
    }

    private static void askFindsNone() {
        Run x = alone(10);
        x.joinNow(80, 10);
        x.stabilise(80).is(true);
        x.message(0).is(ASK + 10);
        x.deliver(0).is(6);
        x.message(0).is(TELL + 80);
        x.deliver(0).is(7);
        x.successor(80).is(10);
        x.message(0).is(NOTIFY + 10);
        x.pumpAll();
        x.stabilise(10).is(true);
        x.message(0).is(ASK + 10);
        x.deliver(0).is(6);
        x.deliver(0).is(7);
        x.successor(10).is(80);
        x.pumpAll();

        Run y = alone(10);
        y.stabilise(10).is(true);
        y.deliver(0).is(6);
        y.joinOver(80, 10);
        y.predecessor(10).is(80);
        y.deliver(0).is(7);
        y.successor(10).is(10);
    }

    /** One more than n and one less than its successor are between; n, its successor and ids behind are not. */
    private static void toldAtTheEdges() {
        for (int id : new int[] {11, 45, 79}) {
            Run x = ring(10, 80);
            x.joinNow(id, 10);
            x.stabiliseNow(id);
            x.predecessor(80).is(id);
            x.stabiliseNow(10);
            x.successor(10).is(id);
        }
        for (int id : new int[] {201, 255, 0, 4}) {
            Run x = ring(5, 200);
            x.joinNow(id, 200);
            x.stabiliseNow(id);
            x.predecessor(5).is(id);
            x.stabiliseNow(200);
            x.successor(200).is(id);
        }
        Run n = ring(10, 80);
        n.stabiliseNow(10);
        n.successor(10).is(80);
        Run behind = ring(10, 80);
        behind.joinNow(45, 10);
        behind.stabilise(45).is(true);
        behind.deliver(0).is(6);
        behind.deliver(0).is(7);
        behind.successor(45).is(80);
        toldLate();
    }

    /** 10 is told of 60 when its successor is 30 already, and of 30 when it is 60. */
    private static void toldLate() {
        Run x = ring(10, 80);
        x.joinNow(60, 10);
        x.stabiliseNow(60);
        x.stabilise(10).is(true);
        x.deliver(0).is(6);
        x.message(0).is(TELL + 10);
        x.stabilise(10).is(true);
        x.deliver(1).is(6);
        x.deliver(1).is(7);
        x.deliver(1).is(8);
        x.successor(10).is(60);
        x.joinOver(30, 10);
        x.stabilise(10).is(true);
        x.deliver(1).is(6);
        x.deliver(1).is(7);
        x.deliver(1).is(8);
        x.successor(10).is(30);
        x.deliver(0).is(7);
        x.successor(10).is(30);
        x.message(0).is(NOTIFY + 30);
    }

    private static void notifyInAnyCase() {
        Run none = alone(10);
        none.stabilise(10).is(true);
        none.pump(2).is(2);
        none.message(0).is(NOTIFY + 10);
        none.flying().is(1);

        Run notBetween = ring(10, 80);
        notBetween.stabilise(10).is(true);
        notBetween.pump(2).is(2);
        notBetween.message(0).is(NOTIFY + 80);
        notBetween.flying().is(1);

        Run between = ring(10, 80);
        between.joinNow(45, 10);
        between.stabiliseNow(45);
        between.stabilise(10).is(true);
        between.message(0).is(ASK + 80);
        between.pump(2).is(2);
        between.message(0).is(NOTIFY + 45);
        between.flying().is(1);
        between.deliver(0).is(8);
        between.predecessor(45).is(10);
    }

    private static void notifiedWithoutAPredecessor() {
        for (int id : new int[] {0, 9, 11, 255}) {
            Run x = alone(10);
            x.joinNow(id, 10);
            x.predecessor(10).is(NONE);
            x.stabiliseNow(id);
            x.predecessor(10).is(id);
        }
        Run y = alone(10);
        y.stabiliseNow(10);
        y.predecessor(10).is(10);
    }

    /** The predecessor of 80 is 10: 11 and 79 are between, 10 itself, 80 itself and 9 are not. */
    private static void notifiedFromBetween() {
        for (int id : new int[] {11, 45, 79}) {
            Run x = ring(10, 80);
            x.joinNow(id, 10);
            x.stabiliseNow(id);
            x.predecessor(80).is(id);
        }
        for (int id : new int[] {9, 0, 255, 81}) {
            Run x = lateNotice(id);
            x.message(0).is(NOTIFY + 80);
            x.predecessor(80).is(10);
            x.deliver(0).is(8);
            x.predecessor(80).is(10);
        }
        Run y = ring(5, 200);
        for (int id : new int[] {201, 255, 0, 4}) {
            y.joinNow(id, 200);
            y.stabiliseNow(id);
            y.predecessor(5).is(id);
        }
    }

    /** NOTIFY of that node to 80 is in flight; NOTIFY of 10 has overtaken it. */
    private static Run lateNotice(int id) {
        Run x = alone(80);
        x.joinNow(id, 80);
        x.stabilise(id).is(true);
        x.deliver(0).is(6);
        x.deliver(0).is(7);
        x.joinOver(10, 80);
        return x;
    }

    private static void keysThatGoOver() {
        Run x = alone(200);
        int[] keys = {201, 255, 0, 99, 100, 101, 199, 200};
        for (int key : keys) {
            x.putNow(200, key, 1000 + key);
        }
        x.joinNow(100, 200);
        x.entries(200).is(keys.length);
        x.entries(100).is(0);
        x.stabiliseNow(100);
        for (int key : keys) {
            boolean stays = key > 100 && key <= 200;
            x.entry(200, key).is(stays ? 1000 + key : ABSENT);
            x.entry(100, key).is(stays ? ABSENT : 1000 + key);
        }
        x.entries(200).is(3);
        x.entries(100).is(5);

        Run wrapped = alone(5);
        int[] round = {5, 4, 0, 255, 251, 250, 249, 6};
        for (int key : round) {
            wrapped.putNow(5, key, 1000 + key);
        }
        wrapped.joinNow(250, 5);
        wrapped.stabiliseNow(250);
        for (int key : round) {
            boolean stays = key > 250 || key <= 5;
            wrapped.entry(5, key).is(stays ? 1000 + key : ABSENT);
            wrapped.entry(250, key).is(stays ? ABSENT : 1000 + key);
        }

        Run neighbour = alone(10);
        for (int key = 8; key <= 12; key++) {
            neighbour.putNow(10, key, key);
        }
        neighbour.joinNow(9, 10);
        neighbour.stabiliseNow(9);
        neighbour.entries(10).is(1);
        neighbour.entry(10, 10).is(10);
        neighbour.entries(9).is(4);
    }

    /** 120 has no entries that could go over to 100, which keeps its own. */
    private static void whatNDoesNotHaveStays() {
        Run x = ring(0, 100);
        x.putNow(0, 50, 7);
        x.putNow(0, 100, 8);
        x.joinNow(120, 100);
        x.stabiliseNow(120);
        x.stabiliseNow(100);
        x.predecessor(120).is(100);
        x.entry(100, 50).is(7);
        x.entry(100, 100).is(8);
        x.entries(100).is(2);
        x.entries(120).is(0);
    }

    /** STORE for 50 comes late to 200, when 100 has an entry for 50 of its own. */
    private static void goingOverReplaces() {
        Run x = ring(0, 200);
        x.put(200, 50, 7).is(true);
        x.pump(2).is(2);
        x.message(0).is(STORE + 200);
        x.joinOver(100, 0);
        x.stabiliseOver(0);
        x.successor(0).is(100);
        x.put(0, 50, 8).is(true);
        x.deliver(1).is(1);
        x.deliver(1).is(3);
        x.entry(100, 50).is(8);
        x.deliver(0).is(3);
        x.entry(200, 50).is(7);
        x.entry(100, 50).is(8);
        x.misplaced().is(1);
        x.joinNow(150, 100);
        x.stabiliseNow(150);
        x.entry(150, 50).is(7);
        x.entry(200, 50).is(ABSENT);
        x.stabiliseNow(100);
        x.predecessor(150).is(100);
        x.entry(150, 50).is(ABSENT);
        x.entry(100, 50).is(7);
        x.entries(100).is(1);
        x.entries(150).is(0);
        x.misplaced().is(0);
    }

    /** The predecessor notifies again, or a node from before it does: entries that would go over stay. */
    private static void otherwiseNothingIsDone() {
        Run again = ring(10, 80);
        again.put(10, 90, 1).is(true);
        again.pump(1).is(1);
        again.pump(1).is(1);
        again.message(0).is(STORE + 10);
        again.joinOver(200, 80);
        again.predecessor(10).is(200);
        again.deliver(0).is(3);
        again.entry(10, 90).is(1);
        again.misplaced().is(1);
        again.stabiliseNow(200);
        again.predecessor(10).is(200);
        again.entry(10, 90).is(1);
        again.entries(200).is(0);
        again.flying().is(0);

        Run late = lateNotice(0);
        late.put(80, 75, 2).is(true);
        late.deliver(1).is(1);
        late.deliver(1).is(3);
        late.entry(80, 75).is(2);
        late.put(80, 5, 3).is(true);
        late.deliver(1).is(1);
        late.deliver(1).is(3);
        late.entry(80, 5).is(3);
        late.deliver(0).is(8);
        late.predecessor(80).is(10);
        late.entry(80, 5).is(3);
        late.entries(80).is(2);
        late.entries(0).is(0);
        late.entries(10).is(0);
        late.flying().is(0);
    }
}
