import java.util.ArrayList;
import java.util.Collections;
import java.util.Comparator;
import java.util.HashMap;
import java.util.HashSet;
import java.util.LinkedHashSet;
import java.util.List;
import java.util.Map;
import java.util.Set;
import java.util.TreeMap;
import java.util.TreeSet;

/**
 * The document's words once more, with sets, maps and vertices that hold their parents by name: slow, and with
 * nothing in common with the program, so that a slip in one of the two shows as a difference.
 */
final class Model {
    /** How often something rare came about, so that a test can tell whether its runs were any good. */
    final Map<String, Integer> seen;

    private final List<Transfer> transfers = new ArrayList<>();
    private final List<Vertex> vertices = new ArrayList<>();
    private final List<Message> board = new ArrayList<>();
    private final Node[] nodes = new Node[4];
    private Node faulty = null;

    Model(Map<String, Integer> seen) {
        this.seen = seen;
        for (int i = 0; i < 4; i++) {
            nodes[i] = new Node(i);
        }
    }

    private record Transfer(int number, int from, int to, int amount) {
    }

    private record Vertex(int number, int author, int round, Set<Integer> parents, int first, int second) {
        boolean isWellFormed() {
            return round == 1 ? parents.isEmpty() : parents.size() >= 3;
        }

        List<Integer> place() {
            return List.of(author, round);
        }
    }

    private record Message(int kind, int sender, Vertex vertex) {
    }

    /** The node went down at a write: what would follow is not done. */
    private static final class Cut extends Exception {
        private static final long serialVersionUID = 1L;
    }

    private static final class Memory {
        int mark = 0;
        int timer = 0;
        final Map<Vertex, Set<Integer>> echoes = new HashMap<>();
        final Map<Vertex, Set<Integer>> readies = new HashMap<>();
        final Set<Vertex> delivered = new LinkedHashSet<>();
        final Map<List<Integer>, Vertex> dag = new HashMap<>();
        int last = 0;
        final Set<Vertex> emitted = new HashSet<>();
        final List<Integer> order = new ArrayList<>();
        final Map<Integer, Integer> balances = new TreeMap<>(Map.of(0, 100, 1, 100, 2, 100, 3, 100));

        Vertex at(int author, int round) {
            return dag.get(List.of(author, round));
        }

        List<Vertex> ofRound(int round) {
            List<Vertex> found = new ArrayList<>();
            for (int author = 0; author < 4; author++) {
                if (at(author, round) != null) {
                    found.add(at(author, round));
                }
            }
            return found;
        }

        Vertex leader(int round) {
            return at(round / 2 % 4, round);
        }

        Set<Vertex> reachedFrom(Vertex vertex) {
            Set<Vertex> reached = new HashSet<>();
            reach(vertex, reached);
            return reached;
        }

        private void reach(Vertex vertex, Set<Vertex> reached) {
            if (reached.add(vertex)) {
                vertex.parents.forEach(parent -> reach(at(parent, vertex.round - 1), reached));
            }
        }
    }

    private final class Node {
        final int id;
        boolean up = true;
        Memory memory = new Memory();
        final List<Integer> ownTransfers = new ArrayList<>();
        final List<Vertex> made = new ArrayList<>();
        final Set<Vertex> echoed = new HashSet<>();
        final Set<Vertex> readied = new HashSet<>();
        int records = 0;
        int cutAt = -1;

        Node(int id) {
            this.id = id;
        }

        boolean works() {
            return up && faulty != this;
        }

        int round() {
            return made.isEmpty() ? 0 : made.get(made.size() - 1).round;
        }

        List<Integer> queue() {
            List<Integer> queue = new ArrayList<>(ownTransfers);
            for (Vertex vertex : made) {
                queue.remove((Object) vertex.first);
                queue.remove((Object) vertex.second);
            }
            return queue;
        }

        void goDown() {
            up = false;
            memory = null;
            cutAt = -1;
        }

        void record(String what) throws Cut {
            if (records == cutAt) {
                goDown();
                count("cut at " + what);
                throw new Cut();
            }
            records++;
        }

        void say(int kind, Vertex vertex) {
            board.add(new Message(kind, id, vertex));
            if (board.size() > 800) {
                count("board beyond its limit");
            }
        }

        boolean hasOne(Set<Vertex> set, Vertex like) {
            return set.stream().anyMatch(v -> v.place().equals(like.place()));
        }

        void take(Message message) throws Cut {
            Vertex v = message.vertex;
            if (message.kind == 0) {
                if (message.sender == v.author && v.isWellFormed() && !hasOne(echoed, v)) {
                    record("echo");
                    echoed.add(v);
                    say(1, v);
                }
            } else if (message.kind == 1) {
                Set<Integer> who = memory.echoes.computeIfAbsent(v, x -> new TreeSet<>());
                who.add(message.sender);
                if (who.size() >= 3 && !hasOne(readied, v)) {
                    ready(v, "ready by echoes");
                }
            } else {
                Set<Integer> who = memory.readies.computeIfAbsent(v, x -> new TreeSet<>());
                who.add(message.sender);
                if (who.size() >= 2 && !hasOne(readied, v)) {
                    ready(v, "ready by readies");
                }
                if (who.size() >= 3) {
                    memory.delivered.add(v);
                }
            }
            act();
        }

        private void ready(Vertex v, String why) throws Cut {
            record(why);
            readied.add(v);
            say(2, v);
            count(why);
        }

        void act() throws Cut {
            while (insert() || commit() || advance()) {
                continue;
            }
        }

        private boolean insert() {
            List<Vertex> ripe = new ArrayList<>();
            for (Vertex v : memory.delivered) {
                boolean stands = v.parents.stream().allMatch(p -> memory.at(p, v.round - 1) != null);
                if (!memory.dag.containsValue(v) && stands && v.isWellFormed()) {
                    ripe.add(v);
                }
            }
            if (ripe.isEmpty()) {
                return false;
            }
            ripe.sort(Comparator.comparing(Vertex::round).thenComparing(Vertex::author));
            if (ripe.size() > 1) {
                count("several ripe vertices");
            }
            if (memory.dag.put(ripe.get(0).place(), ripe.get(0)) != null) {
                throw new IllegalStateException("two vertices of one author and round were delivered");
            }
            return true;
        }

        private boolean commit() {
            for (int w = memory.last + 2; w <= 14; w += 2) {
                Vertex leader = memory.leader(w);
                if (leader != null && supporters(leader) >= 2) {
                    commit(leader);
                    return true;
                }
            }
            return false;
        }

        private long supporters(Vertex leader) {
            return memory.ofRound(leader.round + 1).stream().filter(v -> v.parents.contains(leader.author)).count();
        }

        private void commit(Vertex leader) {
            List<Vertex> committed = new ArrayList<>();
            committed.add(leader);
            Vertex found = leader;
            for (int w = leader.round - 2; w >= memory.last + 2; w -= 2) {
                Vertex earlier = memory.leader(w);
                if (earlier != null && memory.reachedFrom(found).contains(earlier)) {
                    committed.add(earlier);
                    found = earlier;
                    count("leader committed by a later one");
                } else {
                    count(earlier == null ? "leader skipped, not there" : "leader skipped, there but not reached");
                }
            }
            Collections.reverse(committed);
            committed.forEach(this::emit);
            memory.last = leader.round;
        }

        private void emit(Vertex leader) {
            List<Vertex> under = new ArrayList<>(memory.reachedFrom(leader));
            under.removeAll(memory.emitted);
            under.sort(Comparator.comparing(Vertex::round).thenComparing(Vertex::author));
            for (Vertex v : under) {
                memory.emitted.add(v);
                perform(v.first);
                perform(v.second);
            }
        }

        private void perform(int number) {
            if (number < 0) {
                return;
            }
            if (memory.order.contains(number)) {
                count("transfer with a position already");
                return;
            }
            memory.order.add(number);
            Transfer t = transfers.get(number);
            int has = memory.balances.get(t.from);
            if (has >= t.amount) {
                memory.balances.merge(t.from, -t.amount, Integer::sum);
                memory.balances.merge(t.to, t.amount, Integer::sum);
                count(has == t.amount ? "account emptied" : "transfer moved");
            } else {
                count("transfer not covered");
            }
        }

        private boolean advance() throws Cut {
            int round = round();
            Set<Integer> parents = new TreeSet<>();
            memory.ofRound(round).forEach(v -> parents.add(v.author));
            boolean first = round == 0 && memory.timer != 0;
            boolean later = round >= 1 && round <= 13 && parents.contains(id) && parents.size() >= 3
                && (round % 2 == 1 || memory.leader(round) != null || memory.timer >= 3);
            if (!first && !later) {
                return false;
            }
            if (vertices.size() >= 90) {
                count("vertex not made, ninety are there");
                return false;
            }
            record("a vertex");
            if (later && round % 2 == 0 && memory.leader(round) == null) {
                count("advance by the timer");
            }
            List<Integer> queue = queue();
            Vertex v = new Vertex(vertices.size(), id, round + 1, parents,
                queue.size() > 0 ? queue.get(0) : -1, queue.size() > 1 ? queue.get(1) : -1);
            vertices.add(v);
            made.add(v);
            say(0, v);
            memory.timer = 0;
            return true;
        }
    }

    private void count(String what) {
        seen.merge(what, 1, Integer::sum);
    }

    private boolean full() {
        return board.size() >= 800;
    }

    private Node nodeOf(int node) {
        if (node < 0 || node > 3) {
            throw new IndexOutOfBoundsException();
        }
        return nodes[node];
    }

    private Node workingNode(int node) {
        Node n = nodeOf(node);
        if (!n.works()) {
            throw new IllegalStateException();
        }
        return n;
    }

    int submit(int node, int from, int to, int amount) {
        Node n = workingNode(node);
        if (transfers.size() >= 40 || from < 0 || from > 3 || to < 0 || to > 3 || from == to
            || amount < 1 || amount > 1000) {
            return -1;
        }
        try {
            n.record("a transfer");
        } catch (Cut e) {
            return -2;
        }
        int number = transfers.size();
        transfers.add(new Transfer(number, from, to, amount));
        n.ownTransfers.add(number);
        return number;
    }

    boolean deliver(int message, int node) {
        Node n = nodeOf(node);
        if (message < 0 || message >= board.size() || !n.works() || full()) {
            return false;
        }
        takeOrFall(n, message);
        return true;
    }

    private static boolean fell(Node n) {
        return !n.up;
    }

    private void takeOrFall(Node n, int message) {
        try {
            n.take(board.get(message));
        } catch (Cut e) {
            count("a take was cut");
        }
    }

    int pump(int node, int n) {
        Node taker = workingNode(node);
        if (n < 1 || n > 50) {
            return -1;
        }
        int taken = 0;
        while (taken < n && !fell(taker) && !full() && taker.memory.mark < board.size()) {
            int message = taker.memory.mark;
            taker.memory.mark++;
            takeOrFall(taker, message);
            taken++;
        }
        if (full()) {
            count("pump with a full board");
        }
        return taken;
    }

    boolean tick(int node) {
        Node n = nodeOf(node);
        if (!n.works() || full()) {
            return false;
        }
        n.memory.timer = Math.min(3, n.memory.timer + 1);
        try {
            n.act();
        } catch (Cut e) {
            count("a tick was cut");
        }
        return true;
    }

    boolean crash(int node) {
        Node n = nodeOf(node);
        if (!n.works()) {
            return false;
        }
        n.goDown();
        return true;
    }

    boolean restart(int node) {
        Node n = nodeOf(node);
        if (n.up || faulty == n) {
            return false;
        }
        n.up = true;
        n.memory = new Memory();
        if (!full()) {
            try {
                n.act();
            } catch (Cut e) {
                count("a restart was cut");
            }
        }
        return true;
    }

    boolean cut(int node, int k) {
        Node n = nodeOf(node);
        if (k < 0 || !n.works()) {
            return false;
        }
        n.cutAt = n.records + k;
        return true;
    }

    boolean corrupt(int node) {
        Node n = nodeOf(node);
        if (faulty != null) {
            return false;
        }
        faulty = n;
        return true;
    }

    int forge(int round, int parents, int a, int b) {
        if (faulty == null || round < 1 || round > 14 || parents < 0 || parents > 15 || a < -1 || b < -1
            || a >= transfers.size() || b >= transfers.size() || vertices.size() >= 90 || full()) {
            return -1;
        }
        Set<Integer> set = new TreeSet<>();
        for (int p = 0; p < 4; p++) {
            if ((parents / (1 << p)) % 2 == 1) {
                set.add(p);
            }
        }
        Vertex v = new Vertex(vertices.size(), faulty.id, round, set, a, b);
        vertices.add(v);
        faulty.say(0, v);
        return v.number;
    }

    int send(int kind, int vertex) {
        if (faulty == null || kind < 0 || kind > 2 || vertex < 0 || vertex >= vertices.size() || full()) {
            return -1;
        }
        faulty.say(kind, vertices.get(vertex));
        return board.size() - 1;
    }

    int message(int m, int what) {
        if (m < 0 || m >= board.size() || what < 0 || what > 2) {
            return -1;
        }
        Message message = board.get(m);
        return List.of(message.kind, message.sender, message.vertex.number).get(what);
    }

    int vertex(int v, int what) {
        if (v < 0 || v >= vertices.size() || what < 0 || what > 4) {
            return -1;
        }
        Vertex x = vertices.get(v);
        int parents = x.parents.stream().mapToInt(p -> 1 << p).sum();
        return List.of(x.author, x.round, parents, x.first, x.second).get(what);
    }

    int node(int node, int what) {
        Node n = nodeOf(node);
        if (what < 0 || what > 8) {
            return -1;
        }
        Memory m = n.memory;
        int state = faulty == n ? 2 : n.up ? 1 : 0;
        return List.of(state, n.round(), m == null ? 0 : m.timer, m == null ? 0 : m.mark, m == null ? 0 : m.last,
            m == null ? 0 : m.dag.size(), m == null ? 0 : m.order.size(), n.queue().size(), n.records).get(what);
    }

    int dag(int node, int author, int round) {
        Memory m = nodeOf(node).memory;
        return m == null || m.at(author, round) == null ? -1 : m.at(author, round).number;
    }

    int at(int node, int position) {
        Memory m = nodeOf(node).memory;
        return m == null || position < 0 || position >= m.order.size() ? -1 : m.order.get(position);
    }

    int balance(int node, int account) {
        Memory m = nodeOf(node).memory;
        if (account < 0 || account > 3) {
            return -1;
        }
        return m == null ? 0 : m.balances.get(account);
    }

    int messages() {
        return board.size();
    }

    int vertexCount() {
        return vertices.size();
    }

    int transferCount() {
        return transfers.size();
    }
}
