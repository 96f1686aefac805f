import java.util.Arrays;

public final class FingerOverlay {
    public static final int NONE = -1;
    public static final long ABSENT = 4294967296L;
    public static final long NOTHING = 8589934592L;

    private static final int IDS = 256;
    private static final int FINGERS = 8;
    private static final int MOST_NODES = 12;
    private static final int MOST_MESSAGES = 20;
    private static final int MOST_KEYS = 10;
    private static final int MOST_PUMPED = 8;

    private static final int FIND = 1;
    private static final int FOUND = 2;
    private static final int STORE = 3;
    private static final int FETCH = 4;
    private static final int REPLY = 5;
    private static final int ASK = 6;
    private static final int TELL = 7;
    private static final int NOTIFY = 8;

    private static final int FOR_JOIN = 1;
    private static final int FOR_FINGER = 2;
    private static final int FOR_PUT = 3;
    private static final int FOR_GET = 4;

    private final Node[] nodes = new Node[MOST_NODES];
    private int nodeCount = 0;

    // Only keys that put() took can ever have an entry, so each gets a slot that is the same at all nodes.
    private final int[] keys = new int[MOST_KEYS];
    private int keyCount = 0;

    private final Row row = new Row();

    public FingerOverlay() {
    }

    public boolean create(int id) {
        if (!isId(id) || nodeCount > 0) {
            return false;
        }
        Node first = addNode(id);
        first.successor = id;
        return true;
    }

    public boolean join(int id, int via) {
        if (!isId(id) || nodeWith(id) != null || memberWith(via) == null) {
            return false;
        }
        if (nodeCount >= MOST_NODES || row.isFull()) {
            return false;
        }
        addNode(id);
        sendFind(via, id, FOR_JOIN, id);
        return true;
    }

    public boolean stabilise(int id) {
        Node node = memberWith(id);
        if (node == null || row.isFull()) {
            return false;
        }
        Message ask = row.send(ASK, node.successor);
        ask.member = id;
        return true;
    }

    public boolean fix(int id, int j) {
        if (memberWith(id) == null || !isFinger(j) || row.isFull()) {
            return false;
        }
        Message find = sendFind(id, id, FOR_FINGER, fingerStart(id, j));
        find.finger = j;
        return true;
    }

    public boolean put(int id, int key, int value) {
        if (memberWith(id) == null || !isId(key) || row.isFull() || !takeKey(key)) {
            return false;
        }
        Message find = sendFind(id, id, FOR_PUT, key);
        find.value = value;
        return true;
    }

    public boolean get(int id, int key) {
        if (memberWith(id) == null || !isId(key) || row.isFull()) {
            return false;
        }
        sendFind(id, id, FOR_GET, key);
        return true;
    }

    public int deliver(int k) {
        return arrive(k);
    }

    public int pump(int n) {
        if (n < 1 || n > MOST_PUMPED) {
            return NONE;
        }
        int arrived = 0;
        while (arrived < n && arrive(0) != NONE) {
            arrived++;
        }
        return arrived;
    }

    public int flying() {
        return row.size;
    }

    public int message(int k) {
        Message m = row.at(k);
        return m == null ? NONE : m.kind * IDS + m.to;
    }

    public int successor(int id) {
        Node node = memberWith(id);
        return node == null ? NONE : node.successor;
    }

    public int predecessor(int id) {
        Node node = memberWith(id);
        return node == null ? NONE : node.predecessor;
    }

    public int finger(int id, int j) {
        Node node = memberWith(id);
        return node == null || !isFinger(j) ? NONE : node.fingers[j];
    }

    public long entry(int id, int key) {
        Node node = memberWith(id);
        return node == null ? ABSENT : valueAt(node, key);
    }

    public int entries(int id) {
        Node node = memberWith(id);
        if (node == null) {
            return NONE;
        }
        int count = 0;
        for (int slot = 0; slot < MOST_KEYS; slot++) {
            if (node.values[slot] != ABSENT) {
                count++;
            }
        }
        return count;
    }

    public long answer(int id) {
        Node node = nodeWith(id);
        return node == null ? NOTHING : node.answer;
    }

    public int hops(int id) {
        Node node = nodeWith(id);
        return node == null ? NONE : node.hops;
    }

    public int owner(int key) {
        return isId(key) ? firstUpFrom(key) : NONE;
    }

    public int wrong() {
        int count = 0;
        for (int i = 0; i < nodeCount; i++) {
            if (nodes[i].isMember()) {
                count += wrongPointers(nodes[i]);
            }
        }
        return count;
    }

    public int misplaced() {
        int count = 0;
        for (int slot = 0; slot < keyCount; slot++) {
            int rightPlace = firstUpFrom(keys[slot]);
            for (int i = 0; i < nodeCount; i++) {
                if (nodes[i].values[slot] != ABSENT && nodes[i].id != rightPlace) {
                    count++;
                }
            }
        }
        return count;
    }

    private static boolean isId(int id) {
        return id >= 0 && id < IDS;
    }

    private static boolean isFinger(int j) {
        return j >= 0 && j < FINGERS;
    }

    private static int fingerStart(int id, int j) {
        return (id + (1 << j)) & (IDS - 1);
    }

    // A full round, not 0, from an id to itself: so "past a up to a" is all ids and "between a and a" all but a.
    private static int stepsUp(int from, int to) {
        return ((to - from - 1) & (IDS - 1)) + 1;
    }

    private static boolean isPastUpTo(int a, int b, int id) {
        return stepsUp(a, id) <= stepsUp(a, b);
    }

    private static boolean isBetween(int a, int b, int id) {
        return stepsUp(a, id) < stepsUp(a, b);
    }

    // The callers have seen that there is room for one node more.
    private Node addNode(int id) {
        Node node = new Node(id);
        if (nodeCount < MOST_NODES) {
            nodes[nodeCount] = node;
            nodeCount++;
        }
        return node;
    }

    private Node nodeWith(int id) {
        for (int i = 0; i < nodeCount; i++) {
            if (nodes[i].id == id) {
                return nodes[i];
            }
        }
        return null;
    }

    private Node memberWith(int id) {
        Node node = nodeWith(id);
        return node != null && node.isMember() ? node : null;
    }

    private int firstUpFrom(int start) {
        int first = NONE;
        for (int i = 0; i < nodeCount; i++) {
            int id = nodes[i].id;
            if (nodes[i].isMember() && (first == NONE || stepsUp(start - 1, id) < stepsUp(start - 1, first))) {
                first = id;
            }
        }
        return first;
    }

    private int firstDownFrom(int start) {
        int first = NONE;
        for (int i = 0; i < nodeCount; i++) {
            int id = nodes[i].id;
            if (nodes[i].isMember() && (first == NONE || stepsUp(id, start + 1) < stepsUp(first, start + 1))) {
                first = id;
            }
        }
        return first;
    }

    private int wrongPointers(Node node) {
        int count = 0;
        if (node.successor != firstUpFrom(node.id + 1)) {
            count++;
        }
        if (node.predecessor != firstDownFrom(node.id - 1)) {
            count++;
        }
        for (int j = 0; j < FINGERS; j++) {
            if (node.fingers[j] != firstUpFrom(fingerStart(node.id, j))) {
                count++;
            }
        }
        return count;
    }

    private int slotOf(int key) {
        for (int slot = 0; slot < keyCount; slot++) {
            if (keys[slot] == key) {
                return slot;
            }
        }
        return NONE;
    }

    private boolean takeKey(int key) {
        if (slotOf(key) != NONE) {
            return true;
        }
        if (keyCount >= MOST_KEYS) {
            return false;
        }
        keys[keyCount] = key;
        keyCount++;
        return true;
    }

    private long valueAt(Node node, int key) {
        int slot = slotOf(key);
        return slot == NONE ? ABSENT : node.values[slot];
    }

    private Message sendFind(int to, int asker, int purpose, int key) {
        Message find = row.send(FIND, to);
        find.asker = asker;
        find.purpose = purpose;
        find.key = key;
        return find;
    }

    private int arrive(int k) {
        Message m = row.takeOut(k);
        if (m == null) {
            return NONE;
        }
        Node n = nodeWith(m.to);
        if (n == null) {
            return m.kind;
        }
        switch (m.kind) {
            case FIND:
                findArrives(n, m);
                break;
            case FOUND:
                foundArrives(n, m);
                break;
            case STORE:
                storeArrives(n, m);
                break;
            case FETCH:
                fetchArrives(n, m);
                break;
            case REPLY:
                n.answer = m.value;
                n.hops = m.hops;
                break;
            case ASK:
                askArrives(n, m);
                break;
            case TELL:
                tellArrives(n, m);
                break;
            default:
                notifyArrives(n, m);
                break;
        }
        return m.kind;
    }

    private void findArrives(Node n, Message m) {
        if (!isPastUpTo(n.id, n.successor, m.key)) {
            passOn(n, m);
        } else if (m.purpose == FOR_PUT) {
            Message store = row.send(STORE, n.successor);
            store.key = m.key;
            store.value = m.value;
        } else if (m.purpose == FOR_GET) {
            Message fetch = row.send(FETCH, n.successor);
            fetch.key = m.key;
            fetch.asker = m.asker;
            fetch.hops = m.hops;
        } else {
            Message found = row.send(FOUND, m.asker);
            found.purpose = m.purpose;
            found.finger = m.finger;
            found.member = n.successor;
            found.hops = m.hops;
        }
    }

    private void passOn(Node n, Message m) {
        Message find = sendFind(nextTowards(n, m.key), m.asker, m.purpose, m.key);
        find.finger = m.finger;
        find.value = m.value;
        find.hops = m.hops + 1;
    }

    private static int nextTowards(Node n, int key) {
        for (int j = FINGERS - 1; j >= 0; j--) {
            int finger = n.fingers[j];
            if (finger != NONE && isBetween(n.id, key, finger)) {
                return finger;
            }
        }
        return n.successor;
    }

    private void foundArrives(Node n, Message m) {
        if (m.purpose == FOR_JOIN) {
            n.successor = m.member;
        } else if (isFinger(m.finger)) {
            n.fingers[m.finger] = m.member;
        }
        n.hops = m.hops;
    }

    private void storeArrives(Node n, Message m) {
        int slot = slotOf(m.key);
        if (slot != NONE) {
            n.values[slot] = m.value;
        }
    }

    private void fetchArrives(Node n, Message m) {
        Message reply = row.send(REPLY, m.asker);
        reply.value = valueAt(n, m.key);
        reply.hops = m.hops;
    }

    private void askArrives(Node n, Message m) {
        Message tell = row.send(TELL, m.member);
        tell.member = n.predecessor;
    }

    private void tellArrives(Node n, Message m) {
        if (m.member != NONE && isBetween(n.id, n.successor, m.member)) {
            n.successor = m.member;
        }
        Message notice = row.send(NOTIFY, n.successor);
        notice.member = n.id;
    }

    private void notifyArrives(Node n, Message m) {
        if (n.predecessor == NONE || isBetween(n.predecessor, n.id, m.member)) {
            n.predecessor = m.member;
            handOver(n, nodeWith(m.member));
        }
    }

    private void handOver(Node n, Node before) {
        if (before == null) {
            return;
        }
        for (int slot = 0; slot < keyCount; slot++) {
            if (n.values[slot] != ABSENT && !isPastUpTo(before.id, n.id, keys[slot])) {
                before.values[slot] = n.values[slot];
                n.values[slot] = ABSENT;
            }
        }
    }

    private static final class Node {
        final int id;
        // A node that still joins has none; a member always has one.
        int successor = NONE;
        int predecessor = NONE;
        final int[] fingers = new int[FINGERS];
        // By the slots of the keys; no int is ABSENT, so ABSENT can stand for no entry.
        final long[] values = new long[MOST_KEYS];
        long answer = NOTHING;
        int hops = 0;

        Node(int id) {
            this.id = id;
            Arrays.fill(fingers, NONE);
            Arrays.fill(values, ABSENT);
        }

        boolean isMember() {
            return successor != NONE;
        }
    }

    private static final class Message {
        int kind;
        int to;
        int asker;
        int purpose;
        int key;
        int finger;
        // Who is found or told of, or who asks or notifies.
        int member;
        int hops;
        // The value to store, or the answer of a REPLY.
        long value;
    }

    // The messages are made once and used again, so that a long run makes no more of them.
    private static final class Row {
        // One more than may fly: the message that has just arrived keeps its place behind all others, so that
        // what is sent while it is being read does not write over it.
        final Message[] messages = new Message[MOST_MESSAGES + 1];
        int size = 0;

        Row() {
            for (int i = 0; i <= MOST_MESSAGES; i++) {
                messages[i] = new Message();
            }
        }

        boolean isFull() {
            return size >= MOST_MESSAGES;
        }

        Message at(int k) {
            return k >= 0 && k < size ? messages[k] : null;
        }

        Message takeOut(int k) {
            Message taken = at(k);
            if (taken == null) {
                return null;
            }
            for (int i = k; i < MOST_MESSAGES; i++) {
                messages[i] = messages[i + 1];
            }
            messages[MOST_MESSAGES] = taken;
            size--;
            return taken;
        }

        // Every caller has seen that the row is not full, or has just taken a message out.
        Message send(int kind, int to) {
            Message m = messages[size];
            if (size < MOST_MESSAGES) {
                size++;
            }
            m.kind = kind;
            m.to = to;
            m.asker = NONE;
            m.purpose = 0;
            m.key = NONE;
            m.finger = NONE;
            m.member = NONE;
            m.hops = 0;
            m.value = 0;
            return m;
        }
    }
}
