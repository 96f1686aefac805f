import java.util.ArrayList;
import java.util.List;
import java.util.function.Consumer;

/** The boundary sentences of "What it is" and of "Terms" about ids, nodes and the row of messages. */
public final class TermsEdges extends Edges {
    public static void main(String[] args) {
        section("What it is");
        test("An object is used for at most 512 calls after it has been made", TermsEdges::call512IsStillAnswered);

        section("Terms");
        test("behind 255 comes 0", TermsEdges::behind255Comes0);
        test("are a + 1, a + 2, .. round the circle, ending with b", TermsEdges::pastAUpToB);
        test("if b is a, they are all 256 ids", TermsEdges::pastAUpToAIsAll);
        test("are those past a up to b without b", TermsEdges::betweenIsWithoutB);
        test("(if b is a: all but a)", TermsEdges::betweenAAndAIsAllButA);

        test("NODES have ids, all different", TermsEdges::idsAreDifferent);
        test("at most 12 nodes", TermsEdges::atMost12Nodes);
        test("A node is a MEMBER, or still joining", TermsEdges::memberOrStillJoining);
        test("a SUCCESSOR, which is a member (perhaps itself)", TermsEdges::successorPerhapsItself);
        test("a PREDECESSOR, which is a member (perhaps itself) or none", TermsEdges::predecessorPerhapsItselfOrNone);
        test("FINGERS 0 .. 7, each a member or none", TermsEdges::fingersEachAMemberOrNone);
        test("a value (an int) for each of some keys, which are ids", TermsEdges::valuesAreIntsAndKeysIds);
        test("Every node has an ANSWER and HOPS: nothing and 0 at first", TermsEdges::nothingAnd0AtFirst);

        test("in the order in which they were sent; number 0 is the oldest", TermsEdges::number0IsTheOldest);
        test("it is taken out of the row, and then", TermsEdges::takenOutOfAFullRowFirst);
        test("what is sent thereby comes to the end of the row", TermsEdges::whatIsSentComesToTheEnd);

        test("(the member itself, if it is alone)", TermsEdges::aloneItIsItsOwnSuccessor);
        test("for the successor the first one met going up from the member's id + 1 round the circle",
                TermsEdges::rightSuccessor);
        test("for the predecessor the first one met going down from its id - 1", TermsEdges::rightPredecessor);
        test("the first one met going up from its id + 2 to the power of j, that id included",
                TermsEdges::thatIdIncluded);
        test("the member first met going up from the key, the key included", TermsEdges::theKeyIncluded);

        test("A call that is refused changes nothing.", TermsEdges::refusalsInARow);
        test("Calls that send a message are refused when 20 are in flight.", TermsEdges::refusedWhen20AreInFlight);
        test("(What arrives sends at most one.)", TermsEdges::whatArrivesSendsAtMostOne);
        test("`ABSENT = 4294967296L`", TermsEdges::noValueIsAbsentOrNothing);
        test("`NOTHING = 8589934592L`", TermsEdges::noValueIsAbsentOrNothing);
        finish();
    }

    /** Call 511 is a get, so that a message is in flight; 512 is the call that is looked at. */
    private static void call512IsStillAnswered() {
        List<Consumer<Run>> last = new ArrayList<>();
        last.add(x -> x.create(20).is(false));
        last.add(x -> x.join(20, 10).is(true));
        last.add(x -> x.stabilise(10).is(true));
        last.add(x -> x.fix(10, 7).is(true));
        last.add(x -> x.put(10, 6, 1).is(true));
        last.add(x -> x.get(10, 6).is(true));
        last.add(x -> x.deliver(0).is(1));
        last.add(x -> x.pump(8).is(3));
        last.add(x -> x.flying().is(1));
        last.add(x -> x.message(0).is(FIND + 10));
        last.add(x -> x.successor(10).is(10));
        last.add(x -> x.predecessor(10).is(10));
        last.add(x -> x.finger(10, 3).is(10));
        last.add(x -> x.entry(10, 5).is(251));
        last.add(x -> x.entries(10).is(1));
        last.add(x -> x.answer(10).is(251));
        last.add(x -> x.hops(10).is(0));
        last.add(x -> x.owner(10).is(10));
        last.add(x -> x.wrong().is(7));
        last.add(x -> x.misplaced().is(0));
        for (Consumer<Run> call : last) {
            Run x = alone(10);
            x.stabilise(10).is(true);
            x.pump(8).is(3);
            x.fix(10, 3).is(true);
            x.pump(8).is(2);
            x.flying().is(0);
            for (int i = 1; i <= 251; i++) {
                x.put(10, 5, i).is(true);
                x.pump(8).is(2);
            }
            x.get(10, 5).is(true);
            x.pump(8).is(3);
            x.get(10, 5).is(true);
            if (x.calls() != 511) {
                failed("the test is wrong: " + x.calls() + " calls before the last");
            }
            call.accept(x);
        }
        Run x = new Run();
        for (int i = 1; i <= 511; i++) {
            x.create(256).is(false);
        }
        x.create(255).is(true);
    }

    private static void behind255Comes0() {
        Run x = ring(0, 255);
        x.successor(255).is(0);
        x.predecessor(0).is(255);
        x.get(255, 0).is(true);
        x.deliver(0).is(1);
        x.message(0).is(FETCH + 0);
        x.pumpAll();
        x.fix(255, 0).is(true);
        x.deliver(0).is(1);
        x.message(0).is(FOUND + 255);
        x.deliver(0).is(2);
        x.finger(255, 0).is(0);
        x.hops(255).is(0);
        x.owner(255).is(255);
        x.owner(0).is(0);

        Run y = ring(5, 250);
        for (int key : new int[] {251, 254, 255, 0, 1, 5}) {
            y.owner(key).is(5);
            y.get(250, key).is(true);
            y.deliver(0).is(1);
            y.message(0).is(FETCH + 5);
            y.pumpAll();
        }
    }

    private static void pastAUpToB() {
        Run x = ring(10, 20, 200);
        firstStep(x, 10, 11, FETCH + 20);
        firstStep(x, 10, 12, FETCH + 20);
        firstStep(x, 10, 19, FETCH + 20);
        firstStep(x, 10, 20, FETCH + 20);
        firstStep(x, 10, 10, FIND + 20);
        firstStep(x, 10, 9, FIND + 20);
        firstStep(x, 10, 21, FIND + 20);
        firstStep(x, 200, 201, FETCH + 10);
        firstStep(x, 200, 255, FETCH + 10);
        firstStep(x, 200, 0, FETCH + 10);
        firstStep(x, 200, 10, FETCH + 10);
        firstStep(x, 200, 200, FIND + 10);
        firstStep(x, 200, 199, FIND + 10);
        firstStep(x, 200, 11, FIND + 10);
        Run neighbours = ring(7, 8);
        firstStep(neighbours, 7, 8, FETCH + 8);
        firstStep(neighbours, 7, 9, FIND + 8);
        firstStep(neighbours, 7, 7, FIND + 8);
    }

    /** What becomes of the question for that key when it arrives at that member. */
    private static void firstStep(Run x, int id, int key, int message) {
        x.get(id, key).is(true);
        x.deliver(0).is(1);
        x.message(0).is(message);
        x.pumpAll();
    }

    private static void pastAUpToAIsAll() {
        for (int id : new int[] {0, 10, 255}) {
            for (int from = 0; from < 256; from += 64) {
                Run x = alone(id);
                for (int key = from; key < from + 64; key++) {
                    firstStep(x, id, key, FETCH + id);
                }
            }
            Run y = alone(id);
            int[] keys = {0, 1, 9, 10, 11, 128, 254, 255};
            for (int key : keys) {
                y.putNow(id, key, 500 + key);
            }
            y.stabiliseNow(id);
            y.predecessor(id).is(id);
            y.entries(id).is(keys.length);
            for (int key : keys) {
                y.entry(id, key).is(500 + key);
            }
        }
    }

    private static void betweenIsWithoutB() {
        Run x = ring(0, 50, 100, 150);
        x.fixNow(0, 6);
        x.fixNow(0, 7);
        x.finger(0, 6).is(100);
        x.finger(0, 7).is(150);
        firstStep(x, 0, 150, FIND + 100);
        firstStep(x, 0, 151, FIND + 150);
        firstStep(x, 0, 100, FIND + 50);
        firstStep(x, 0, 101, FIND + 100);

        notifiedByItself();
        itselfIsNotBetween();
    }

    /** NOTIFY from 10 to itself comes late, when its predecessor is 80: 10 is not between 80 and 10. */
    private static void notifiedByItself() {
        Run x = alone(10);
        x.stabilise(10).is(true);
        x.deliver(0).is(6);
        x.deliver(0).is(7);
        x.message(0).is(NOTIFY + 10);
        x.join(80, 10).is(true);
        x.deliver(1).is(1);
        x.deliver(1).is(2);
        x.stabilise(80).is(true);
        x.deliver(1).is(6);
        x.deliver(1).is(7);
        x.deliver(1).is(8);
        x.predecessor(10).is(80);
        x.message(0).is(NOTIFY + 10);
        x.deliver(0).is(8);
        x.predecessor(10).is(80);
    }

    /** All fingers of 10 are 10 itself, which is past 10 last of all, so never between 10 and another id. */
    private static void itselfIsNotBetween() {
        Run x = alone(10);
        for (int j = 0; j < 8; j++) {
            x.fixNow(10, j);
            x.finger(10, j).is(10);
        }
        x.joinNow(80, 10);
        x.stabiliseNow(80);
        x.stabiliseNow(10);
        x.successor(10).is(80);
        firstStep(x, 10, 81, FIND + 80);
        firstStep(x, 10, 9, FIND + 80);
        x.stabiliseNow(10);
        x.successor(10).is(80);
    }

    private static void betweenAAndAIsAllButA() {
        for (int id : new int[] {0, 1, 9, 11, 12, 138, 255}) {
            Run x = alone(10);
            x.stabiliseNow(10);
            x.predecessor(10).is(10);
            x.successor(10).is(10);
            x.joinNow(id, 10);
            x.stabiliseNow(id);
            x.predecessor(10).is(id);
            x.stabiliseNow(10);
            x.successor(10).is(id);
        }
        Run y = alone(10);
        y.fixNow(10, 7);
        y.finger(10, 7).is(10);
        y.joinNow(90, 10);
        y.stabiliseNow(90);
        y.stabiliseNow(10);
        y.joinNow(30, 10);
        y.stabiliseNow(30);
        y.stabiliseNow(10);
        firstStep(y, 10, 10, FIND + 30);
        y.fixNow(10, 6);
        y.finger(10, 6).is(90);
        firstStep(y, 10, 10, FIND + 90);
        firstStep(y, 10, 11, FETCH + 30);
    }

    private static void idsAreDifferent() {
        refused(() -> ring(10, 80), x -> x.join(80, 10));
        refused(() -> ring(10, 80), x -> x.join(10, 80));
        refused(() -> joining(10, 80, false), x -> x.join(80, 10));
    }

    private static void atMost12Nodes() {
        Run x = alone(100);
        for (int id = 0; id < 11; id++) {
            x.join(id, 100).is(true);
        }
        x.join(11, 100).is(false);
        x.hops(10).is(0);
        x.hops(11).is(NONE);
        x.pumpAll();
        for (int id = 0; id < 11; id++) {
            x.successor(id).is(100);
        }
        x.join(11, 100).is(false);
        x.wrong().is(12 * 10 - 1);
    }

    /** Joining until FOUND has arrived, and a member from then on. */
    private static void memberOrStillJoining() {
        Run x = alone(10);
        x.join(80, 10).is(true);
        x.successor(80).is(NONE);
        x.entries(80).is(NONE);
        x.owner(80).is(10);
        x.stabilise(80).is(false);
        x.deliver(0).is(1);
        x.successor(80).is(NONE);
        x.entries(80).is(NONE);
        x.owner(80).is(10);
        x.stabilise(80).is(false);
        x.deliver(0).is(2);
        x.successor(80).is(10);
        x.entries(80).is(0);
        x.owner(80).is(80);
        x.stabilise(80).is(true);
    }

    private static void successorPerhapsItself() {
        Run x = alone(10);
        x.successor(10).is(10);
        x.stabiliseNow(10);
        x.successor(10).is(10);
        x.join(80, 10).is(true);
        x.joinNow(50, 10);
        x.successor(50).is(10);

        Run y = alone(10);
        y.join(80, 10).is(true);
        y.join(50, 10).is(true);
        y.deliver(1).is(1);
        y.deliver(1).is(2);
        y.successor(50).is(10);
        y.successor(10).is(10);
        y.successor(80).is(NONE);
        y.fix(10, 6).is(true);
        y.deliver(1).is(1);
        y.deliver(1).is(2);
        y.finger(10, 6).is(10);
    }

    private static void predecessorPerhapsItselfOrNone() {
        Run x = alone(10);
        x.predecessor(10).is(NONE);
        x.stabiliseNow(10);
        x.predecessor(10).is(10);
        x.joinNow(80, 10);
        x.predecessor(80).is(NONE);
        x.predecessor(10).is(10);
        x.stabiliseNow(80);
        x.predecessor(10).is(80);
        x.predecessor(80).is(NONE);
    }

    private static void fingersEachAMemberOrNone() {
        Run x = ring(0, 128);
        for (int j = 0; j < 8; j++) {
            x.finger(0, j).is(NONE);
        }
        x.fixNow(0, 0);
        x.fixNow(0, 7);
        x.finger(0, 0).is(128);
        x.finger(0, 7).is(128);
        for (int j = 1; j < 7; j++) {
            x.finger(0, j).is(NONE);
        }
        x.fixNow(128, 7);
        x.finger(128, 7).is(0);
        x.finger(128, 0).is(NONE);
    }

    private static void valuesAreIntsAndKeysIds() {
        int[] values = {LEAST, LEAST + 1, -1, 0, 1, GREATEST - 1, GREATEST};
        for (int key : new int[] {0, 1, 254, 255}) {
            Run x = alone(10);
            for (int value : values) {
                x.putNow(10, key, value);
                x.entry(10, key).is(value);
                x.getNow(10, key);
                x.answer(10).is(value);
            }
            x.entries(10).is(1);
        }
    }

    private static void nothingAnd0AtFirst() {
        Run x = alone(10);
        x.answer(10).is(NOTHING);
        x.hops(10).is(0);
        x.join(80, 10).is(true);
        x.answer(80).is(NOTHING);
        x.hops(80).is(0);
        x.pumpAll();
        x.answer(80).is(NOTHING);
        x.hops(80).is(0);
    }

    private static void number0IsTheOldest() {
        Run x = ring(0, 255);
        x.get(0, 3).is(true);
        x.stabilise(0).is(true);
        x.get(255, 3).is(true);
        x.stabilise(255).is(true);
        x.message(0).is(FIND + 0);
        x.message(1).is(ASK + 255);
        x.message(2).is(FIND + 255);
        x.message(3).is(ASK + 0);
        x.deliver(1).is(6);
        x.message(0).is(FIND + 0);
        x.message(1).is(FIND + 255);
        x.message(2).is(ASK + 0);
        x.message(3).is(TELL + 0);
        x.pump(1).is(1);
        x.message(0).is(FIND + 255);
        x.message(1).is(ASK + 0);
        x.message(2).is(TELL + 0);
        x.message(3).is(FETCH + 255);
        x.message(4).is(NONE);
    }

    /** In a full row the message that arrives makes the room for what it sends. */
    private static void takenOutOfAFullRowFirst() {
        Run x = flying(20, 10);
        x.deliver(0).is(1);
        x.flying().is(20);
        x.message(18).is(FIND + 10);
        x.message(19).is(FETCH + 10);
        x.message(20).is(NONE);
        x.deliver(19).is(4);
        x.flying().is(20);
        x.message(19).is(REPLY + 10);
        x.answer(10).is(NOTHING);
        x.deliver(19).is(5);
        x.flying().is(19);
        x.answer(10).is(ABSENT);
        x.message(18).is(FIND + 10);
        x.message(19).is(NONE);
    }

    private static void whatIsSentComesToTheEnd() {
        Run x = ring(10, 80);
        x.stabilise(10).is(true);
        x.get(10, 20).is(true);
        x.put(80, 20, 4).is(true);
        x.fix(80, 1).is(true);
        x.deliver(0).is(6);
        x.message(3).is(TELL + 10);
        x.deliver(3).is(7);
        x.message(3).is(NOTIFY + 80);
        x.deliver(0).is(1);
        x.message(3).is(FETCH + 80);
        x.deliver(0).is(1);
        x.message(3).is(FIND + 10);
        x.deliver(0).is(1);
        x.message(0).is(NOTIFY + 80);
        x.message(1).is(FETCH + 80);
        x.message(2).is(FIND + 10);
        x.message(3).is(FOUND + 80);
        x.deliver(2).is(1);
        x.message(2).is(FOUND + 80);
        x.message(3).is(STORE + 80);
        x.deliver(1).is(4);
        x.message(3).is(REPLY + 10);
    }

    private static void aloneItIsItsOwnSuccessor() {
        for (int id : new int[] {0, 10, 255}) {
            Run x = alone(id);
            x.wrong().is(9);
            x.stabiliseNow(id);
            x.wrong().is(8);
            for (int j = 0; j < 8; j++) {
                x.fixNow(id, j);
                x.wrong().is(7 - j);
            }
            x.join(id ^ 1, id).is(true);
            x.wrong().is(0);
        }
    }

    /** Next to the member, far from it, and round the circle; a member met later is not right. */
    private static void rightSuccessor() {
        for (int[] pair : new int[][] {{10, 11}, {10, 9}, {10, 138}, {0, 255}, {255, 0}, {254, 255}}) {
            Run x = alone(pair[0]);
            x.joinNow(pair[1], pair[0]);
            x.successor(pair[0]).is(pair[0]);
            x.successor(pair[1]).is(pair[0]);
            x.wrong().is(10 + 9);
            x.stabiliseNow(pair[1]);
            x.wrong().is(18);
            x.stabilise(pair[0]).is(true);
            x.pump(2).is(2);
            x.successor(pair[0]).is(pair[1]);
            x.wrong().is(17);
        }
        Run y = ring(10, 80);
        y.wrong().is(16);
        y.joinNow(79, 10);
        y.successor(10).is(80);
        y.wrong().is(16 + 2 + 9);
        y.stabiliseNow(79);
        y.wrong().is(26);
        y.stabilise(10).is(true);
        y.pump(2).is(2);
        y.successor(10).is(79);
        y.wrong().is(25);
    }

    private static void rightPredecessor() {
        for (int[] pair : new int[][] {{10, 11}, {10, 9}, {10, 138}, {0, 255}, {255, 0}, {255, 254}}) {
            Run x = alone(pair[0]);
            x.stabiliseNow(pair[0]);
            x.wrong().is(8);
            x.joinNow(pair[1], pair[0]);
            x.predecessor(pair[0]).is(pair[0]);
            x.wrong().is(10 + 9);
            x.stabiliseNow(pair[1]);
            x.predecessor(pair[0]).is(pair[1]);
            x.wrong().is(18);
            x.stabiliseNow(pair[0]);
            x.predecessor(pair[1]).is(pair[0]);
            x.wrong().is(16);
        }
    }

    /** One member stands just at the id that a finger of the other begins with, or one id before. */
    private static void thatIdIncluded() {
        for (int j = 0; j < 8; j++) {
            for (int id : new int[] {0, 10, 200, 255}) {
                fingerAt(id, j, (id + (1 << j)) % 256, 0);
                if (j > 0) {
                    fingerAt(id, j, (id + (1 << j) - 1) % 256, 1);
                }
            }
        }
    }

    /** Finger j of that id is found before the other node joins, and again afterwards. */
    private static void fingerAt(int id, int j, int other, int wrongAgain) {
        Run x = alone(id);
        x.fixNow(id, j);
        x.finger(id, j).is(id);
        x.wrong().is(8);
        x.joinNow(other, id);
        x.stabiliseNow(other);
        x.stabiliseNow(id);
        boolean isPassed = wrongAgain == 1;
        x.wrong().is(isPassed ? 15 : 16);
        x.fixNow(id, j);
        x.finger(id, j).is(isPassed ? id : other);
        x.wrong().is(15);
    }

    private static void theKeyIncluded() {
        for (int id : new int[] {0, 1, 10, 254, 255}) {
            int other = (id + 100) % 256;
            Run x = alone(id);
            x.joinNow(other, id);
            x.owner(id).is(id);
            x.owner((id + 1) % 256).is(other);
            x.owner((other + 255) % 256).is(other);
            x.owner(other).is(other);
            x.owner((other + 1) % 256).is(id);
            x.owner((id + 255) % 256).is(id);
        }
    }

    private static void refusalsInARow() {
        Run x = ring(10, 80, 200);
        x.putNow(10, 30, 3);
        x.join(90, 10).is(true);
        x.put(10, 40, 4).is(true);
        x.get(200, 30).is(true);
        for (int i = 0; i < 13; i++) {
            x.create(i).is(false);
            x.join(10, 80).is(false);
            x.join(i, 90).is(false);
            x.join(256 + i, 10).is(false);
            x.stabilise(90).is(false);
            x.fix(10, 8 + i).is(false);
            x.fix(90, 0).is(false);
            x.put(10, 256 + i, i).is(false);
            x.put(90, i, i).is(false);
            x.get(10, -1 - i).is(false);
            x.get(90, i).is(false);
            x.deliver(3 + i).is(NONE);
            x.deliver(-1 - i).is(NONE);
            x.pump(-i).is(NONE);
            x.pump(9 + i).is(NONE);
        }
        x.flying().is(3);
        x.message(0).is(FIND + 10);
        x.message(1).is(FIND + 10);
        x.message(2).is(FIND + 200);
        x.entries(80).is(1);
        for (int key = 100; key < 108; key++) {
            x.put(10, key, key).is(true);
        }
        x.put(10, 108, 108).is(false);
        x.pumpAll();
        x.successor(90).is(200);
        x.entry(80, 40).is(4);
        x.answer(200).is(3);
        for (int id = 1; id <= 8; id++) {
            x.join(id, 10).is(true);
        }
        x.join(9, 10).is(false);
    }

    private static void refusedWhen20AreInFlight() {
        List<Consumer<Run>> twentieth = new ArrayList<>();
        twentieth.add(x -> x.join(20, 10).is(true));
        twentieth.add(x -> x.stabilise(10).is(true));
        twentieth.add(x -> x.fix(10, 0).is(true));
        twentieth.add(x -> x.put(10, 1, 1).is(true));
        twentieth.add(x -> x.get(10, 1).is(true));
        for (Consumer<Run> call : twentieth) {
            Run x = flying(19, 10);
            call.accept(x);
            x.flying().is(20);
            x.join(30, 10).is(false);
            x.stabilise(10).is(false);
            x.fix(10, 0).is(false);
            x.put(10, 1, 1).is(false);
            x.get(10, 1).is(false);
            x.flying().is(20);
            for (int k = 0; k < 19; k++) {
                x.message(k).is(FIND + 10);
            }
            x.pumpAll();
            call.accept(flying(0, 10));
        }
    }

    /** Each kind, arriving in a full row: the row is never fuller than 20, and no emptier than 19. */
    private static void whatArrivesSendsAtMostOne() {
        int[] rows = {20, 19, 19, 20, 19, 20, 20, 19};
        for (int kind = 1; kind <= 8; kind++) {
            Run x = alone(10);
            bring(x, kind);
            x.fillUpTo(20, 10);
            x.message(0).is(kind * 256 + 10);
            x.deliver(0).is(kind);
            x.flying().is(rows[kind - 1]);
        }
        Run y = flying(20, 10);
        for (int i = 0; i < 60; i++) {
            y.flying().is(20 - (i <= 40 ? 0 : i - 40));
            y.pump(1).is(1);
        }
        y.flying().is(0);
    }

    /** A message of that kind is the only one in flight. */
    private static void bring(Run x, int kind) {
        if (kind == 1 || kind == 4 || kind == 5) {
            x.get(10, 1).is(true);
        } else if (kind == 2) {
            x.fix(10, 0).is(true);
        } else if (kind == 3) {
            x.put(10, 1, 1).is(true);
        } else {
            x.stabilise(10).is(true);
        }
        for (int i = 0; i < 2 && x.message(0).value != kind * 256 + 10; i++) {
            x.pump(1).is(1);
        }
    }

    /** Every int differs from both, also those that are 0 or 1 in their last 32 bits. */
    private static void noValueIsAbsentOrNothing() {
        Run x = alone(10);
        x.entry(10, 1).is(4294967296L);
        x.answer(10).is(8589934592L);
        x.put(10, 1, 0).is(true);
        x.pumpAll();
        x.entry(10, 1).is(0);
        x.getNow(10, 1);
        x.answer(10).is(0);
        x.getNow(10, 2);
        x.answer(10).is(4294967296L);
    }
}
