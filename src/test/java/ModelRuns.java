import java.util.ArrayList;
import java.util.HashSet;
import java.util.List;
import java.util.Map;
import java.util.Random;
import java.util.Set;
import java.util.TreeMap;

/**
 * Mixed runs of 512 calls, each answer compared with a second reading of the document. The model walks round the
 * circle step by step and keeps maps and sets, so that it shares no way of reckoning with the program.
 */
public final class ModelRuns {
    private static final int RUNS = 4000;
    private static final int CALLS = 512;
    private static final int MOST_SHOWN = 20;

    private static int failures = 0;
    private static final Set<String> seen = new HashSet<>();

    public static void main(String[] args) {
        for (int run = 0; run < RUNS && failures < MOST_SHOWN; run++) {
            new Run(run).play();
        }
        for (int kind = 1; kind <= 8; kind++) {
            wasSeen("kind " + kind);
        }
        for (String refusal : new String[] {"full join", "full stabilise", "full fix", "full put", "full get",
                "twelve nodes", "ten keys", "entry overwritten", "by finger", "successor told", "wrong 0"}) {
            wasSeen(refusal);
        }
        System.out.println(failures == 0 ? "all runs are as the model's" : failures + " answers are not the model's");
        if (failures != 0) {
            System.exit(1);
        }
    }

    private static void wasSeen(String what) {
        if (!seen.contains(what)) {
            failures++;
            System.out.println("no run came to this: " + what);
        }
    }

    private static final class Peer {
        boolean member;
        int next;
        Integer before;
        final Integer[] fingers = new Integer[8];
        final Map<Integer, Integer> table = new TreeMap<>();
        long reply = 8589934592L;
        int steps;
    }

    private record Letter(int kind, int to, int key, String purpose, int asker, int hops, long value, Integer who) {
    }

    private static final class Model {
        final Map<Integer, Peer> peers = new TreeMap<>();
        final List<Letter> row = new ArrayList<>();
        final Set<Integer> keysPut = new HashSet<>();

        static boolean id(int x) {
            return 0 <= x && x <= 255;
        }

        static Set<Integer> pastUpTo(int a, int b) {
            Set<Integer> ids = new HashSet<>();
            int x = a;
            do {
                x = x == 255 ? 0 : x + 1;
                ids.add(x);
            } while (x != b);
            return ids;
        }

        static Set<Integer> between(int a, int b) {
            Set<Integer> ids = pastUpTo(a, b);
            ids.remove(b);
            return ids;
        }

        boolean member(int id) {
            return peers.containsKey(id) && peers.get(id).member;
        }

        boolean full() {
            return row.size() == 20;
        }

        boolean create(int id) {
            if (!id(id) || !peers.isEmpty()) {
                return false;
            }
            Peer p = new Peer();
            p.member = true;
            p.next = id;
            peers.put(id, p);
            return true;
        }

        boolean join(int id, int via) {
            if (!id(id) || peers.containsKey(id) || !member(via)) {
                return false;
            }
            if (peers.size() == 12) {
                seen.add("twelve nodes");
                return false;
            }
            if (full()) {
                seen.add("full join");
                return false;
            }
            peers.put(id, new Peer());
            row.add(new Letter(1, via, id, "JOIN", id, 0, 0, null));
            return true;
        }

        boolean stabilise(int id) {
            if (member(id) && full()) {
                seen.add("full stabilise");
            }
            if (!member(id) || full()) {
                return false;
            }
            row.add(new Letter(6, peers.get(id).next, 0, "", 0, 0, 0, id));
            return true;
        }

        boolean fix(int id, int j) {
            if (member(id) && full()) {
                seen.add("full fix");
            }
            if (!member(id) || j < 0 || j > 7 || full()) {
                return false;
            }
            int key = id;
            for (int i = 0; i < Math.pow(2, j); i++) {
                key = key == 255 ? 0 : key + 1;
            }
            row.add(new Letter(1, id, key, "FINGER " + j, id, 0, 0, null));
            return true;
        }

        boolean put(int id, int key, int value) {
            if (!member(id) || !id(key)) {
                return false;
            }
            if (full()) {
                seen.add("full put");
                return false;
            }
            if (!keysPut.contains(key) && keysPut.size() == 10) {
                seen.add("ten keys");
                return false;
            }
            keysPut.add(key);
            row.add(new Letter(1, id, key, "PUT", id, 0, value, null));
            return true;
        }

        boolean get(int id, int key) {
            if (member(id) && full()) {
                seen.add("full get");
            }
            if (!member(id) || !id(key) || full()) {
                return false;
            }
            row.add(new Letter(1, id, key, "GET", id, 0, 0, null));
            return true;
        }

        int deliver(int k) {
            if (k < 0 || k >= row.size()) {
                return -1;
            }
            Letter m = row.remove(k);
            seen.add("kind " + m.kind);
            int n = m.to;
            Peer p = peers.get(n);
            switch (m.kind) {
                case 1 -> find(n, p, m);
                case 2 -> {
                    if (m.purpose.equals("JOIN")) {
                        p.next = m.who;
                        p.member = true;
                    } else {
                        p.fingers[m.purpose.charAt(7) - '0'] = m.who;
                    }
                    p.steps = m.hops;
                }
                case 3 -> p.table.put(m.key, (int) m.value);
                case 4 -> {
                    long value = p.table.containsKey(m.key) ? p.table.get(m.key) : 4294967296L;
                    row.add(new Letter(5, m.asker, 0, "", 0, m.hops, value, null));
                }
                case 5 -> {
                    p.reply = m.value;
                    p.steps = m.hops;
                }
                case 6 -> row.add(new Letter(7, m.who, 0, "", 0, 0, 0, p.before));
                case 7 -> {
                    if (m.who != null && between(n, p.next).contains(m.who)) {
                        p.next = m.who;
                        seen.add("successor told");
                    }
                    row.add(new Letter(8, p.next, 0, "", 0, 0, 0, n));
                }
                default -> notified(n, p, m.who);
            }
            return m.kind;
        }

        void find(int n, Peer p, Letter m) {
            if (pastUpTo(n, p.next).contains(m.key)) {
                if (m.purpose.equals("PUT")) {
                    row.add(new Letter(3, p.next, m.key, "", 0, 0, m.value, null));
                } else if (m.purpose.equals("GET")) {
                    row.add(new Letter(4, p.next, m.key, "", m.asker, m.hops, 0, null));
                } else {
                    row.add(new Letter(2, m.asker, 0, m.purpose, 0, m.hops, 0, p.next));
                }
                return;
            }
            int to = p.next;
            Set<Integer> ahead = between(n, m.key);
            for (int j = 0; j < 8; j++) {
                if (p.fingers[j] != null && ahead.contains(p.fingers[j])) {
                    to = p.fingers[j];
                    seen.add("by finger");
                }
            }
            row.add(new Letter(1, to, m.key, m.purpose, m.asker, m.hops + 1, m.value, null));
        }

        void notified(int n, Peer p, int from) {
            if (p.before != null && !between(p.before, n).contains(from)) {
                return;
            }
            p.before = from;
            Set<Integer> kept = pastUpTo(from, n);
            for (Integer key : new ArrayList<>(p.table.keySet())) {
                if (!kept.contains(key)) {
                    if (peers.get(from).table.containsKey(key)) {
                        seen.add("entry overwritten");
                    }
                    peers.get(from).table.put(key, p.table.remove(key));
                }
            }
        }

        int pump(int n) {
            if (n < 1 || n > 8) {
                return -1;
            }
            int arrived = 0;
            for (int i = 0; i < n; i++) {
                if (!row.isEmpty()) {
                    deliver(0);
                    arrived++;
                }
            }
            return arrived;
        }

        int message(int k) {
            return k < 0 || k >= row.size() ? -1 : row.get(k).kind * 256 + row.get(k).to;
        }

        int predecessor(int id) {
            return !member(id) || peers.get(id).before == null ? -1 : peers.get(id).before;
        }

        int finger(int id, int j) {
            return !member(id) || j < 0 || j > 7 || peers.get(id).fingers[j] == null ? -1 : peers.get(id).fingers[j];
        }

        long entry(int id, int key) {
            return member(id) && peers.get(id).table.containsKey(key) ? peers.get(id).table.get(key) : 4294967296L;
        }

        int owner(int key) {
            if (!id(key)) {
                return -1;
            }
            for (int i = 0; i < 256; i++) {
                if (member((key + i) % 256)) {
                    return (key + i) % 256;
                }
            }
            return -1;
        }

        int below(int id) {
            for (int i = 1; i <= 256; i++) {
                if (member((id + 256 - i) % 256)) {
                    return (id + 256 - i) % 256;
                }
            }
            return -1;
        }

        int wrong() {
            int count = 0;
            for (int id : peers.keySet()) {
                if (!member(id)) {
                    continue;
                }
                count += peers.get(id).next == owner((id + 1) % 256) ? 0 : 1;
                count += predecessor(id) == below(id) ? 0 : 1;
                int far = 1;
                for (int j = 0; j < 8; j++) {
                    count += finger(id, j) == owner((id + far) % 256) ? 0 : 1;
                    far *= 2;
                }
            }
            if (count == 0 && peers.size() > 1) {
                seen.add("wrong 0");
            }
            return count;
        }

        int misplaced() {
            int count = 0;
            for (int id : peers.keySet()) {
                for (int key : peers.get(id).table.keySet()) {
                    count += member(id) && owner(key) != id ? 1 : 0;
                }
            }
            return count;
        }
    }

    private static final class Run {
        final int number;
        final Random random;
        final FingerOverlay x = new FingerOverlay();
        final Model model = new Model();
        final List<Integer> ids = new ArrayList<>();
        final int spread;
        final int hurry;
        final int order;
        int calls = 0;

        Run(int number) {
            this.number = number;
            random = new Random(number);
            spread = random.nextInt(3);
            hurry = 1 + random.nextInt(6);
            order = random.nextInt(3);
            int pool = 1 + random.nextInt(14);
            for (int i = 0; i < pool; i++) {
                ids.add(anId());
            }
        }

        /** Crowded ids, ids at the powers of two, or any. */
        int anId() {
            return switch (spread) {
                case 0 -> (250 + random.nextInt(14)) % 256;
                case 1 -> random.nextInt(16) * 16;
                default -> random.nextInt(256);
            };
        }

        int node() {
            return random.nextInt(40) == 0 ? random.nextInt(300) - 20 : ids.get(random.nextInt(ids.size()));
        }

        int member() {
            int id = node();
            for (int i = 0; i < 6 && !model.member(id); i++) {
                id = node();
            }
            return id;
        }

        int key() {
            return switch (random.nextInt(12)) {
                case 0 -> random.nextInt(300) - 20;
                case 1, 2, 3 -> node();
                case 4 -> node() + 1;
                default -> (number * 7 + random.nextInt(12) * 23) % 256;
            };
        }

        int value() {
            return random.nextBoolean() ? random.nextInt() : random.nextInt(4) - 1;
        }

        int place() {
            return random.nextInt(30) == 0 ? random.nextInt(26) - 3 : random.nextInt(Math.max(1, model.row.size()));
        }

        void play() {
            boolean settles = number % 4 == 0;
            while (calls < CALLS && failures < MOST_SHOWN) {
                if (settles && calls > 150 && calls % 7 != 0) {
                    settle();
                } else if (random.nextInt(3) == 0) {
                    look();
                } else if (random.nextInt(8) < hurry) {
                    arrive();
                } else {
                    send();
                }
            }
        }

        /** Mends one pointer at a time, so that the ring can come to rest. */
        void settle() {
            if (model.row.size() > 2) {
                check("pump(8)", x.pump(8), model.pump(8));
                return;
            }
            int id = member();
            if (calls < 330 || random.nextBoolean()) {
                check("stabilise(" + id + ")", x.stabilise(id), model.stabilise(id));
                return;
            }
            int j = random.nextInt(8);
            for (int peer : model.peers.keySet()) {
                for (int i = 0; i < 8; i++) {
                    if (model.member(peer) && model.finger(peer, i) != model.owner((peer + (1 << i)) % 256)) {
                        id = peer;
                        j = i;
                    }
                }
            }
            check("fix(" + id + ", " + j + ")", x.fix(id, j), model.fix(id, j));
        }

        void arrive() {
            int n = random.nextInt(20) == 0 ? random.nextInt(14) - 2 : 1 + random.nextInt(8);
            int k = place();
            if (order == 0 || (order == 1 && random.nextBoolean())) {
                check("pump(" + n + ")", x.pump(n), model.pump(n));
            } else {
                check("deliver(" + k + ")", x.deliver(k), model.deliver(k));
            }
        }

        void send() {
            int id = member();
            int other = node();
            int key = key();
            int value = value();
            int j = random.nextInt(20) == 0 ? random.nextInt(14) - 3 : random.nextInt(8);
            switch (model.peers.isEmpty() ? random.nextInt(2) : 1 + random.nextInt(10)) {
                case 0 -> check("create(" + other + ")", x.create(other), model.create(other));
                case 1 -> check("join(" + other + ", " + id + ")", x.join(other, id), model.join(other, id));
                case 2, 3, 4, 5 -> check("stabilise(" + id + ")", x.stabilise(id), model.stabilise(id));
                case 6, 7 -> check("fix(" + id + ", " + j + ")", x.fix(id, j), model.fix(id, j));
                case 8 -> check("put(" + id + ", " + key + ", " + value + ")", x.put(id, key, value), model.put(id, key, value));
                case 9 -> check("get(" + id + ", " + key + ")", x.get(id, key), model.get(id, key));
                default -> check("create(" + other + ")", x.create(other), model.create(other));
            }
        }

        void look() {
            int id = node();
            int key = key();
            int k = place();
            int j = random.nextInt(12) - 2;
            Peer p = model.peers.get(id);
            switch (random.nextInt(12)) {
                case 0 -> check("flying()", x.flying(), model.row.size());
                case 1 -> check("message(" + k + ")", x.message(k), model.message(k));
                case 2 -> check("successor(" + id + ")", x.successor(id), model.member(id) ? p.next : -1);
                case 3 -> check("predecessor(" + id + ")", x.predecessor(id), model.predecessor(id));
                case 4 -> check("finger(" + id + ", " + j + ")", x.finger(id, j), model.finger(id, j));
                case 5 -> check("entry(" + id + ", " + key + ")", x.entry(id, key), model.entry(id, key));
                case 6 -> check("entries(" + id + ")", x.entries(id), model.member(id) ? p.table.size() : -1);
                case 7 -> check("answer(" + id + ")", x.answer(id), p == null ? 8589934592L : p.reply);
                case 8 -> check("hops(" + id + ")", x.hops(id), p == null ? -1 : p.steps);
                case 9 -> check("owner(" + key + ")", x.owner(key), model.owner(key));
                case 10 -> check("wrong()", x.wrong(), model.wrong());
                default -> check("misplaced()", x.misplaced(), model.misplaced());
            }
        }

        void check(String call, boolean got, boolean want) {
            check(call, got ? 1 : 0, want ? 1 : 0);
        }

        void check(String call, long got, long want) {
            calls++;
            if (got != want) {
                failures++;
                System.out.println("run " + number + ", call " + calls + ": " + call + " answered " + got
                        + ", due is " + want);
            }
        }
    }
}
