import java.util.function.IntUnaryOperator;

/**
 * The document's first sentence, seen from far: whole rings whose messages arrive in different orders come to the
 * same end. Who the owner is, is found here by going round the circle.
 */
public final class RingStory extends Edges {
    private static final int[][] RINGS = {{10, 80, 130, 131, 250}, {0, 64, 128, 192, 255}, {200, 201, 202, 203, 204}};
    private static final int[] KEYS = {0, 10, 79, 81, 130, 131, 192, 203, 251, 255};
    private static final int MOST_ROUNDS = 12;

    /** Which message of so many in flight arrives next. */
    private static final IntUnaryOperator OLDEST = flying -> 0;
    private static final IntUnaryOperator NEWEST = flying -> flying - 1;
    private static final IntUnaryOperator MIDDLE = flying -> flying / 2;
    private static final IntUnaryOperator ELEVEN_ON = flying -> 11 % flying;
    private static final IntUnaryOperator[] ORDERS = {OLDEST, NEWEST, MIDDLE, ELEVEN_ON};

    public static void main(String[] args) {
        section("What it is");
        test("messages that may arrive in any order", () -> forAll(RingStory::allPointersComeRight));
        test("find the owner of a key by passing a question on", () -> forAll(RingStory::everyKeyIsFound));
        test("mend their pointers and hand keys over", () -> forAll(RingStory::keysGoOver));
        finish();
    }

    private interface Story {
        void tell(int[] ids, IntUnaryOperator order);
    }

    private static void forAll(Story story) {
        for (int[] ids : RINGS) {
            for (IntUnaryOperator order : ORDERS) {
                story.tell(ids, order);
            }
        }
    }

    private static void allPointersComeRight(int[] ids, IntUnaryOperator order) {
        Run x = settled(ids, order);
        for (int i = 0; i < ids.length; i++) {
            x.successor(ids[i]).is(ids[(i + 1) % ids.length]);
            x.predecessor(ids[i]).is(ids[(i + ids.length - 1) % ids.length]);
            for (int j = 0; j < 8; j++) {
                x.finger(ids[i], j).is(ownerOf((ids[i] + (1 << j)) % 256, ids));
            }
        }
        x.flying().is(0);
        x.wrong().is(0);
    }

    private static void everyKeyIsFound(int[] ids, IntUnaryOperator order) {
        for (int asker : ids) {
            Run x = settled(ids, order);
            for (int i = 0; i < KEYS.length; i++) {
                x.put(asker, KEYS[i], -i).is(true);
            }
            arriveAll(x, KEYS.length, order);
            for (int i = 0; i < KEYS.length; i++) {
                x.entry(ownerOf(KEYS[i], ids), KEYS[i]).is(-i);
                x.owner(KEYS[i]).is(ownerOf(KEYS[i], ids));
            }
            x.misplaced().is(0);
            for (int i = 0; i < KEYS.length; i++) {
                x.get(asker, KEYS[i]).is(true);
                arriveAll(x, 1, order);
                x.answer(asker).is(-i);
            }
        }
    }

    /** All entries are the first node's before the others join; afterwards each is its owner's. */
    private static void keysGoOver(int[] ids, IntUnaryOperator order) {
        Run x = alone(ids[0]);
        for (int i = 0; i < KEYS.length; i++) {
            x.put(ids[0], KEYS[i], 100 + i).is(true);
        }
        arriveAll(x, KEYS.length, order);
        x.entries(ids[0]).is(KEYS.length);
        x.misplaced().is(0);
        joinAll(x, ids, order);
        x.misplaced().is(keysOfOthers(ids));
        mendNeighbours(x, ids, order);
        x.misplaced().is(0);
        int entries = 0;
        for (int id : ids) {
            entries += x.entries(id).value;
        }
        if (entries != KEYS.length) {
            failed(entries + " entries are left of " + KEYS.length);
        }
        for (int i = 0; i < KEYS.length; i++) {
            x.entry(ownerOf(KEYS[i], ids), KEYS[i]).is(100 + i);
        }
    }

    private static Run settled(int[] ids, IntUnaryOperator order) {
        Run x = alone(ids[0]);
        joinAll(x, ids, order);
        mendNeighbours(x, ids, order);
        for (int id : ids) {
            for (int j = 0; j < 8; j++) {
                x.fix(id, j).is(true);
            }
            arriveAll(x, 8, order);
        }
        return x;
    }

    private static void joinAll(Run x, int[] ids, IntUnaryOperator order) {
        for (int i = 1; i < ids.length; i++) {
            x.join(ids[i], ids[0]).is(true);
        }
        arriveAll(x, ids.length - 1, order);
    }

    /** Until only the fingers, which are none, are wrong. */
    private static void mendNeighbours(Run x, int[] ids, IntUnaryOperator order) {
        for (int round = 0; round < MOST_ROUNDS && x.wrong().value > 8 * ids.length; round++) {
            for (int id : ids) {
                x.stabilise(id).is(true);
            }
            arriveAll(x, ids.length, order);
        }
        x.wrong().is(8 * ids.length);
    }

    /** FIND, FETCH, ASK and TELL send one message, the other kinds none: so the row need not be counted by calls. */
    private static void arriveAll(Run x, int sent, IntUnaryOperator order) {
        int flying = sent;
        for (int i = 0; i < Run.MOST_CALLS && flying > 0; i++) {
            long kind = x.deliver(order.applyAsInt(flying)).value;
            flying -= kind == 1 || kind == 4 || kind == 6 || kind == 7 ? 0 : 1;
        }
        x.flying().is(0);
    }

    private static int keysOfOthers(int[] ids) {
        int count = 0;
        for (int key : KEYS) {
            count += ownerOf(key, ids) == ids[0] ? 0 : 1;
        }
        return count;
    }

    private static int ownerOf(int key, int[] ids) {
        for (int place = key; place < key + 256; place++) {
            for (int id : ids) {
                if (id == place % 256) {
                    return id;
                }
            }
        }
        return NONE;
    }
}
