/** The boundary sentences of promise 1 and of promises 10 to 21: what the calls that only look answer. */
public final class AnswerEdges extends Edges {
    private static final int[] NO_FINGERS = {-1, 8, 31, 32, 39, LEAST, GREATEST};

    public static void main(String[] args) {
        section("Promise 1: A new object");
        test("No nodes, no messages.", AnswerEdges::newObject);

        section("Promise 10: flying");
        test("The number of messages in flight.", AnswerEdges::flyingFrom0To20);

        section("Promise 11: message");
        test("its kind * 256 + the id of the node to which it goes", AnswerEdges::messageOfEachKind);
        test("NONE if there is no such message", AnswerEdges::noSuchMessage);

        section("Promise 12: successor");
        test("The id of the successor of the member with that id", AnswerEdges::successorAtTheEnds);
        test("NONE if there is no such member", AnswerEdges::successorOfNoMember);

        section("Promise 13: predecessor");
        test("The id of the predecessor of the member with that id", AnswerEdges::predecessorAtTheEnds);
        test("NONE if it has none", AnswerEdges::noPredecessor);
        test("or there is no such member", AnswerEdges::predecessorOfNoMember);

        section("Promise 14: finger");
        test("The id of finger j of the member with that id", AnswerEdges::fingerAtTheEnds);
        test("NONE if there is none", AnswerEdges::noFinger);
        test("no such member", AnswerEdges::fingerOfNoMember);
        test("or j is not 0 .. 7", AnswerEdges::fingerOfNoNumber);

        section("Promise 15: entry");
        test("The value of the entry for the key of the member with that id", AnswerEdges::entryAtTheEnds);
        test("ABSENT if there is none", AnswerEdges::noEntry);
        test("or no such member", AnswerEdges::entryOfNoMember);

        section("Promise 16: entries");
        test("The number of entries of the member with that id", AnswerEdges::entriesFrom0To10);
        test("NONE if there is no such member", AnswerEdges::entriesOfNoMember);

        section("Promise 17: answer");
        test("(of its latest REPLY)", AnswerEdges::answerOfTheLatestReply);
        test("a value, ABSENT, or NOTHING", AnswerEdges::valueAbsentOrNothing);
        test("NOTHING (also if there is no such node)", AnswerEdges::answerOfNoNode);

        section("Promise 18: hops");
        test("(of its latest FOUND or REPLY)", AnswerEdges::hopsOfTheLatest);
        test("NONE if there is no such node", AnswerEdges::hopsOfNoNode);

        section("Promise 19: owner");
        test("The id of the owner of the key", AnswerEdges::ownerAtTheEnds);
        test("NONE if key is not 0 .. 255", AnswerEdges::ownerOfNoKey);
        test("or there is no member", AnswerEdges::ownerWithoutMembers);

        section("Promise 20: wrong");
        test("(also if it is alone)", AnswerEdges::wrongAlone);
        test("its successor, its predecessor and its eight fingers are looked at", AnswerEdges::tenPointers);
        test("one that is none is not right", AnswerEdges::noneIsNotRight);
        test("How many pointers are not right: of each member", AnswerEdges::joiningNodesAreNotLookedAt);

        section("Promise 21: misplaced");
        test("whose owner is another member", AnswerEdges::ownerIsAnotherMember);
        test("How many entries of all members", AnswerEdges::eachEntryCounts);
        finish();
    }

    private static void newObject() {
        Run x = new Run();
        x.flying().is(0);
        x.message(0).is(NONE);
        x.wrong().is(0);
        x.misplaced().is(0);
        for (int id : new int[] {-1, 0, 1, 128, 255, 256}) {
            x.successor(id).is(NONE);
            x.predecessor(id).is(NONE);
            x.finger(id, 0).is(NONE);
            x.entry(id, 0).is(ABSENT);
            x.entries(id).is(NONE);
            x.answer(id).is(NOTHING);
            x.hops(id).is(NONE);
            x.owner(id).is(NONE);
            x.join(id, id).is(false);
            x.join(5, id).is(false);
            x.stabilise(id).is(false);
            x.fix(id, 0).is(false);
            x.put(id, 0, 0).is(false);
            x.get(id, 0).is(false);
            x.deliver(id).is(NONE);
        }
        x.pump(8).is(0);
        x.flying().is(0);
        x.create(0).is(true);
        Run other = new Run();
        other.hops(0).is(NONE);
        other.create(0).is(true);
    }

    private static void flyingFrom0To20() {
        Run x = alone(10);
        for (int i = 0; i < 20; i++) {
            x.flying().is(i);
            x.put(10, i % 10, i).is(true);
        }
        x.flying().is(20);
        x.put(10, 1, 1).is(false);
        x.flying().is(20);
        for (int i = 0; i < 20; i++) {
            x.deliver(0).is(1);
            x.flying().is(20);
        }
        for (int i = 20; i > 0; i--) {
            x.flying().is(i);
            x.deliver(i - 1).is(3);
        }
        x.flying().is(0);
        x.deliver(0).is(NONE);
        x.flying().is(0);
    }

    /** All eight kinds to 0 and to 255, the least and the greatest id. */
    private static void messageOfEachKind() {
        for (int id : new int[] {0, 255}) {
            int via = 100;
            Run x = ring(Math.min(id, via), Math.max(id, via));
            x.fix(id, 0).is(true);
            x.message(0).is(FIND + id);
            x.deliver(0).is(1);
            x.message(0).is(FOUND + id);
            x.deliver(0).is(2);
            x.put(via, id, 1).is(true);
            x.deliver(0).is(1);
            x.message(0).is(STORE + id);
            x.deliver(0).is(3);
            x.get(via, id).is(true);
            x.deliver(0).is(1);
            x.message(0).is(FETCH + id);
            x.pumpAll();
            x.get(id, id).is(true);
            x.pump(3).is(3);
            x.message(0).is(REPLY + id);
            x.pumpAll();
            x.stabilise(via).is(true);
            x.message(0).is(ASK + id);
            x.pump(2).is(2);
            x.message(0).is(NOTIFY + id);
            x.pumpAll();
            x.stabilise(id).is(true);
            x.deliver(0).is(6);
            x.message(0).is(TELL + id);
        }
    }

    private static void noSuchMessage() {
        for (int k : new int[] {0, -1, 1, 19, 20, LEAST, GREATEST}) {
            alone(10).message(k).is(NONE);
        }
        Run three = flying(3, 10);
        three.message(0).is(FIND + 10);
        three.message(2).is(FIND + 10);
        for (int k : new int[] {-1, 3, 4, 19, 20, LEAST, GREATEST}) {
            three.message(k).is(NONE);
        }
        three.flying().is(3);
        Run full = flying(20, 10);
        full.message(0).is(FIND + 10);
        full.message(19).is(FIND + 10);
        for (int k : new int[] {-1, 20, 21, LEAST, GREATEST}) {
            full.message(k).is(NONE);
        }
        full.pumpAll();
        full.message(0).is(NONE);
        full.message(19).is(NONE);
    }

    private static void successorAtTheEnds() {
        Run x = ring(0, 1, 255);
        x.successor(0).is(1);
        x.successor(1).is(255);
        x.successor(255).is(0);
    }

    private static void successorOfNoMember() {
        Run x = joining(10, 80, true);
        x.successor(80).is(NONE);
        x.successor(9).is(NONE);
        x.successor(11).is(NONE);
        for (int id : NO_IDS) {
            x.successor(id).is(NONE);
        }
        x.deliver(0).is(2);
        x.successor(80).is(10);
        new Run().successor(0).is(NONE);
    }

    private static void predecessorAtTheEnds() {
        Run x = ring(0, 1, 255);
        x.predecessor(0).is(255);
        x.predecessor(1).is(0);
        x.predecessor(255).is(1);
    }

    private static void noPredecessor() {
        Run x = alone(0);
        x.predecessor(0).is(NONE);
        x.joinNow(255, 0);
        x.predecessor(0).is(NONE);
        x.predecessor(255).is(NONE);
        x.stabiliseNow(255);
        x.predecessor(0).is(255);
        x.predecessor(255).is(NONE);
    }

    private static void predecessorOfNoMember() {
        Run x = alone(10);
        x.stabiliseNow(10);
        x.join(80, 10).is(true);
        x.predecessor(10).is(10);
        x.predecessor(80).is(NONE);
        x.predecessor(9).is(NONE);
        x.predecessor(11).is(NONE);
        for (int id : NO_IDS) {
            x.predecessor(id).is(NONE);
        }
        new Run().predecessor(0).is(NONE);
    }

    /** With id 0 as a finger, which is not the same as none. */
    private static void fingerAtTheEnds() {
        Run x = ring(0, 255);
        for (int j = 0; j < 8; j++) {
            x.fixNow(0, j);
            x.fixNow(255, j);
        }
        for (int j = 0; j < 8; j++) {
            x.finger(0, j).is(255);
            x.finger(255, j).is(j == 0 ? 0 : 255);
        }
    }

    private static void noFinger() {
        Run x = alone(10);
        x.fixNow(10, 3);
        for (int j = 0; j < 8; j++) {
            x.finger(10, j).is(j == 3 ? 10 : NONE);
        }
        x.fix(10, 4).is(true);
        x.finger(10, 4).is(NONE);
        x.deliver(0).is(1);
        x.finger(10, 4).is(NONE);
        x.deliver(0).is(2);
        x.finger(10, 4).is(10);
    }

    private static void fingerOfNoMember() {
        Run x = alone(10);
        for (int j = 0; j < 8; j++) {
            x.fixNow(10, j);
        }
        x.join(80, 10).is(true);
        for (int j = 0; j < 8; j++) {
            x.finger(80, j).is(NONE);
            x.finger(9, j).is(NONE);
            x.finger(11, j).is(NONE);
            for (int id : NO_IDS) {
                x.finger(id, j).is(NONE);
            }
        }
        new Run().finger(0, 0).is(NONE);
    }

    private static void fingerOfNoNumber() {
        Run x = alone(10);
        for (int j = 0; j < 8; j++) {
            x.fixNow(10, j);
        }
        x.finger(10, 0).is(10);
        x.finger(10, 7).is(10);
        for (int j : NO_FINGERS) {
            x.finger(10, j).is(NONE);
            x.finger(11, j).is(NONE);
        }
    }

    private static void entryAtTheEnds() {
        for (int id : new int[] {0, 255}) {
            Run x = alone(id);
            x.putNow(id, 0, LEAST);
            x.putNow(id, 255, GREATEST);
            x.putNow(id, 1, -1);
            x.putNow(id, 254, 0);
            x.entry(id, 0).is(LEAST);
            x.entry(id, 255).is(GREATEST);
            x.entry(id, 1).is(-1);
            x.entry(id, 254).is(0);
        }
    }

    private static void noEntry() {
        Run x = ring(10, 80);
        x.putNow(10, 5, 1);
        x.put(10, 7, 1).is(true);
        x.entry(10, 5).is(1);
        x.entry(80, 5).is(ABSENT);
        x.entry(10, 4).is(ABSENT);
        x.entry(10, 6).is(ABSENT);
        x.entry(10, 7).is(ABSENT);
        x.getNow(10, 9);
        x.entry(10, 9).is(ABSENT);
        for (int key : NO_IDS) {
            x.entry(10, key).is(ABSENT);
        }
        x.entry(10, 5 + 256).is(ABSENT);
        x.entry(10, 5 - 256).is(ABSENT);
        Run none = alone(10);
        none.entry(10, 0).is(ABSENT);
        none.entry(10, -1).is(ABSENT);
    }

    private static void entryOfNoMember() {
        Run x = alone(10);
        x.putNow(10, 80, 1);
        x.join(80, 10).is(true);
        x.entry(80, 80).is(ABSENT);
        x.entry(9, 80).is(ABSENT);
        x.entry(11, 80).is(ABSENT);
        for (int id : NO_IDS) {
            x.entry(id, 80).is(ABSENT);
        }
        x.pumpAll();
        x.entry(80, 80).is(ABSENT);
        x.stabiliseNow(80);
        x.entry(80, 80).is(1);
        new Run().entry(0, 0).is(ABSENT);
    }

    private static void entriesFrom0To10() {
        Run x = alone(10);
        for (int i = 0; i < 10; i++) {
            x.entries(10).is(i);
            x.put(10, i, i).is(true);
            x.deliver(0).is(1);
            x.entries(10).is(i);
            x.deliver(0).is(3);
        }
        x.entries(10).is(10);
        x.put(10, 10, 10).is(false);
        x.putNow(10, 9, 99);
        x.entries(10).is(10);
        x.joinNow(9, 10);
        x.stabiliseNow(9);
        x.entries(10).is(0);
        x.entries(9).is(10);
    }

    private static void entriesOfNoMember() {
        Run x = joining(10, 80, true);
        x.entries(10).is(0);
        x.entries(80).is(NONE);
        x.entries(9).is(NONE);
        x.entries(11).is(NONE);
        for (int id : NO_IDS) {
            x.entries(id).is(NONE);
        }
        x.deliver(0).is(2);
        x.entries(80).is(0);
        new Run().entries(0).is(NONE);
    }

    private static void answerOfTheLatestReply() {
        Run x = alone(10);
        x.putNow(10, 1, 11);
        x.putNow(10, 2, 22);
        x.get(10, 1).is(true);
        x.get(10, 2).is(true);
        x.pump(4).is(4);
        x.answer(10).is(NOTHING);
        x.deliver(1).is(5);
        x.answer(10).is(22);
        x.deliver(0).is(5);
        x.answer(10).is(11);
        x.putNow(10, 1, 12);
        x.answer(10).is(11);
        x.fixNow(10, 0);
        x.stabiliseNow(10);
        x.answer(10).is(11);
        x.getNow(10, 3);
        x.answer(10).is(ABSENT);
        x.getNow(10, 2);
        x.answer(10).is(22);
    }

    private static void valueAbsentOrNothing() {
        Run x = ring(0, 255);
        x.answer(0).is(NOTHING);
        x.answer(255).is(NOTHING);
        x.getNow(0, 5);
        x.answer(0).is(ABSENT);
        x.answer(255).is(NOTHING);
        for (int value : new int[] {LEAST, -1, 0, GREATEST}) {
            x.putNow(0, 5, value);
            x.getNow(0, 5);
            x.answer(0).is(value);
        }
        x.answer(255).is(NOTHING);
    }

    private static void answerOfNoNode() {
        Run x = alone(10);
        x.getNow(10, 5);
        x.join(80, 10).is(true);
        x.answer(10).is(ABSENT);
        x.answer(80).is(NOTHING);
        x.answer(9).is(NOTHING);
        x.answer(11).is(NOTHING);
        for (int id : NO_IDS) {
            x.answer(id).is(NOTHING);
        }
        new Run().answer(0).is(NOTHING);
    }

    private static void hopsOfTheLatest() {
        Run x = ring(0, 50, 100);
        x.hops(0).is(0);
        x.getNow(0, 150);
        x.hops(0).is(2);
        x.fixNow(0, 6);
        x.hops(0).is(1);
        x.fix(0, 5).is(true);
        x.get(0, 60).is(true);
        x.pump(2).is(2);
        x.message(0).is(FOUND + 0);
        x.pump(1).is(1);
        x.hops(0).is(0);
        x.pumpAll();
        x.hops(0).is(1);
        x.putNow(0, 150, 1);
        x.stabiliseNow(0);
        x.hops(0).is(1);
        x.joinNow(120, 50);
        x.hops(120).is(1);
        x.hops(50).is(0);
    }

    private static void hopsOfNoNode() {
        Run x = alone(10);
        x.join(80, 10).is(true);
        x.hops(10).is(0);
        x.hops(80).is(0);
        x.hops(9).is(NONE);
        x.hops(11).is(NONE);
        for (int id : NO_IDS) {
            x.hops(id).is(NONE);
        }
        new Run().hops(0).is(NONE);
    }

    private static void ownerAtTheEnds() {
        Run x = alone(10);
        x.owner(0).is(10);
        x.owner(10).is(10);
        x.owner(11).is(10);
        x.owner(255).is(10);
        x.join(80, 10).is(true);
        x.owner(11).is(10);
        x.owner(80).is(10);
        x.pumpAll();
        x.owner(10).is(10);
        x.owner(11).is(80);
        x.owner(80).is(80);
        x.owner(81).is(10);
        x.owner(255).is(10);
        x.owner(0).is(10);
        Run y = ring(0, 255);
        y.owner(0).is(0);
        y.owner(1).is(255);
        y.owner(254).is(255);
        y.owner(255).is(255);
    }

    private static void ownerOfNoKey() {
        Run x = alone(10);
        x.owner(0).is(10);
        x.owner(255).is(10);
        for (int key : NO_IDS) {
            x.owner(key).is(NONE);
        }
    }

    private static void ownerWithoutMembers() {
        Run x = new Run();
        for (int key = -1; key <= 256; key++) {
            x.owner(key).is(NONE);
        }
        x.create(7).is(true);
        x.owner(0).is(7);
    }

    private static void wrongAlone() {
        Run x = alone(0);
        x.wrong().is(9);
        x.fixNow(0, 0);
        x.wrong().is(8);
        x.stabiliseNow(0);
        x.wrong().is(7);
        for (int j = 1; j < 8; j++) {
            x.fixNow(0, j);
        }
        x.wrong().is(0);
    }

    /** Each of the ten pointers of 50 is mended by itself, and one is fewer wrong each time. */
    private static void tenPointers() {
        Run x = alone(50);
        x.stabiliseNow(50);
        for (int j = 0; j < 8; j++) {
            x.fixNow(50, j);
        }
        x.wrong().is(0);
        x.joinNow(178, 50);
        x.wrong().is(19);
        x.stabiliseNow(178);
        x.wrong().is(18);
        x.stabilise(50).is(true);
        x.pump(2).is(2);
        x.wrong().is(17);
        x.pumpAll();
        x.wrong().is(16);
        for (int j = 7; j >= 0; j--) {
            x.fixNow(50, j);
            x.wrong().is(8 + j);
        }
        for (int j = 0; j < 8; j++) {
            x.fixNow(178, j);
            x.wrong().is(7 - j);
        }
    }

    private static void noneIsNotRight() {
        Run x = ring(0, 255);
        x.wrong().is(16);
        x.fixNow(255, 0);
        x.wrong().is(15);
        Run y = alone(0);
        y.joinNow(255, 0);
        y.predecessor(0).is(NONE);
        y.predecessor(255).is(NONE);
        y.successor(0).is(0);
        y.successor(255).is(0);
        y.wrong().is(19);
        y.stabiliseNow(255);
        y.wrong().is(18);
    }

    private static void joiningNodesAreNotLookedAt() {
        new Run().wrong().is(0);
        Run x = alone(10);
        x.wrong().is(9);
        x.join(80, 10).is(true);
        x.wrong().is(9);
        x.deliver(0).is(1);
        x.wrong().is(9);
        x.deliver(0).is(2);
        x.wrong().is(10 + 9);
    }

    private static void ownerIsAnotherMember() {
        Run x = alone(200);
        for (int key : new int[] {99, 100, 101, 199, 200, 201}) {
            x.putNow(200, key, key);
        }
        x.misplaced().is(0);
        x.join(100, 200).is(true);
        x.deliver(0).is(1);
        x.misplaced().is(0);
        x.deliver(0).is(2);
        x.misplaced().is(3);
        x.stabiliseNow(100);
        x.misplaced().is(0);
        x.entries(100).is(3);
        x.entries(200).is(3);
        new Run().misplaced().is(0);
        alone(10).misplaced().is(0);
        Run ends = alone(0);
        ends.putNow(0, 0, 1);
        ends.putNow(0, 1, 1);
        ends.putNow(0, 255, 1);
        ends.joinNow(255, 0);
        ends.misplaced().is(2);
    }

    /** Two members have an entry for 201, and neither is its owner. */
    private static void eachEntryCounts() {
        Run x = alone(200);
        x.putNow(200, 50, 1);
        x.putNow(200, 201, 5);
        x.joinNow(100, 200);
        x.stabiliseNow(100);
        x.misplaced().is(0);
        x.joinNow(60, 200);
        x.misplaced().is(2);
        x.joinNow(205, 200);
        x.misplaced().is(2);
        x.putNow(200, 201, 9);
        x.entry(100, 201).is(5);
        x.entry(200, 201).is(9);
        x.owner(201).is(205);
        x.misplaced().is(3);
    }
}
