import java.util.Arrays;

/** Four nodes, one of which may be faulty, that agree on the order of transfers. */
public final class DagLedger {
    private static final int NONE = -1;
    private static final int WENT_DOWN = -2;

    private static final int NODES = 4;
    private static final int ACCOUNTS = 4;
    private static final int ALL_NODES = 15;
    private static final int ROUNDS = 14;
    private static final int MAX_TRANSFERS = 40;
    private static final int MAX_VERTICES = 90;
    private static final int MAX_AMOUNT = 1000;
    private static final int MAX_PUMP = 50;
    private static final int FIRST_BALANCE = 100;
    private static final int TIMER_TOP = 3;
    private static final int BOARD_LIMIT = 800;
    // A take or a tick that began below the limit sends at most an answer and a vertex of its own.
    private static final int BOARD_ROOM = BOARD_LIMIT + 2;

    private static final int SEND = 0;
    private static final int ECHO = 1;
    private static final int READY = 2;

    private static final int DOWN = 0;
    private static final int UP = 1;
    private static final int FAULTY = 2;

    private static final int QUORUM = 3;
    // With at most one faulty node, one of two is honest.
    private static final int ONE_HONEST = 2;
    // Far above the inserts, commits and advances that fit into fourteen rounds.
    private static final int MAX_STEPS = 1000;

    private final Transfers transfers;
    private final Vertices vertices;
    private final Board board;
    private final Replica[] replicas;
    private int faulty;

    public DagLedger() {
        transfers = new Transfers();
        vertices = new Vertices();
        board = new Board();
        replicas = new Replica[NODES];
        for (int id = 0; id < NODES; id++) {
            replicas[id] = new Replica(id, board, vertices, transfers);
        }
        faulty = NONE;
    }

    public int submit(int node, int from, int to, int amount)
            throws IndexOutOfBoundsException, IllegalStateException {
        Replica replica = upReplica(node);
        if (transfers.isFull() || !isAccount(from) || !isAccount(to) || from == to
                || amount < 1 || amount > MAX_AMOUNT) {
            return NONE;
        }
        if (!replica.writeRecord()) {
            return WENT_DOWN;
        }
        int transfer = transfers.add(from, to, amount);
        replica.disk.keepTransfer(transfer);
        return transfer;
    }

    public boolean deliver(int message, int node) throws IndexOutOfBoundsException {
        Replica replica = replicaOf(node);
        if (!board.has(message) || !replica.isUp() || board.isFull()) {
            return false;
        }
        replica.take(message);
        return true;
    }

    public int pump(int node, int n) throws IndexOutOfBoundsException, IllegalStateException {
        Replica replica = upReplica(node);
        if (n < 1 || n > MAX_PUMP) {
            return NONE;
        }
        int taken = 0;
        while (taken < n && replica.isUp() && !board.isFull() && board.has(replica.mark)) {
            // The mark goes first, for it is lost if the node goes down on the way.
            replica.mark++;
            replica.take(replica.mark - 1);
            taken++;
        }
        return taken;
    }

    public boolean tick(int node) throws IndexOutOfBoundsException {
        Replica replica = replicaOf(node);
        if (!replica.isUp() || board.isFull()) {
            return false;
        }
        replica.passTime();
        return true;
    }

    public boolean crash(int node) throws IndexOutOfBoundsException {
        Replica replica = replicaOf(node);
        if (!replica.isUp()) {
            return false;
        }
        replica.goDown();
        return true;
    }

    public boolean restart(int node) throws IndexOutOfBoundsException {
        Replica replica = replicaOf(node);
        if (replica.state != DOWN) {
            return false;
        }
        replica.comeUp();
        if (!board.isFull()) {
            replica.act();
        }
        return true;
    }

    public boolean cut(int node, int k) throws IndexOutOfBoundsException {
        Replica replica = replicaOf(node);
        if (k < 0 || !replica.isUp()) {
            return false;
        }
        replica.setCut(k);
        return true;
    }

    public boolean corrupt(int node) throws IndexOutOfBoundsException {
        Replica replica = replicaOf(node);
        if (faulty != NONE) {
            return false;
        }
        replica.state = FAULTY;
        faulty = node;
        return true;
    }

    public int forge(int round, int parents, int a, int b) {
        if (faulty == NONE || round < 1 || round > ROUNDS || parents < 0 || parents > ALL_NODES
                || !isTransferOrNone(a) || !isTransferOrNone(b)
                || vertices.isFull() || board.isFull()) {
            return NONE;
        }
        int made = vertices.add(faulty, round, parents, a, b);
        board.post(SEND, faulty, made);
        return made;
    }

    public int send(int kind, int vertex) {
        if (faulty == NONE || kind < SEND || kind > READY || !vertices.has(vertex) || board.isFull()) {
            return NONE;
        }
        return board.post(kind, faulty, vertex);
    }

    public int message(int m, int what) {
        if (!board.has(m)) {
            return NONE;
        }
        switch (what) {
            case 0: return board.kinds[m];
            case 1: return board.senders[m];
            case 2: return board.subjects[m];
            default: return NONE;
        }
    }

    public int vertex(int v, int what) {
        if (!vertices.has(v)) {
            return NONE;
        }
        switch (what) {
            case 0: return vertices.authors[v];
            case 1: return vertices.rounds[v];
            case 2: return vertices.parents[v];
            case 3: return vertices.firsts[v];
            case 4: return vertices.seconds[v];
            default: return NONE;
        }
    }

    public int node(int node, int what) throws IndexOutOfBoundsException {
        Replica replica = replicaOf(node);
        switch (what) {
            case 0: return replica.state;
            case 1: return replica.disk.round;
            case 2: return replica.timer;
            case 3: return replica.mark;
            case 4: return replica.commits.last;
            case 5: return replica.dag.count;
            case 6: return replica.book.count;
            case 7: return replica.disk.queueLength();
            case 8: return replica.disk.records;
            default: return NONE;
        }
    }

    public int dag(int node, int author, int round) throws IndexOutOfBoundsException {
        Replica replica = replicaOf(node);
        if (author < 0 || author >= NODES || round < 1 || round > ROUNDS) {
            return NONE;
        }
        return replica.dag.find(author, round);
    }

    public int at(int node, int position) throws IndexOutOfBoundsException {
        Replica replica = replicaOf(node);
        if (position < 0 || position >= replica.book.count) {
            return NONE;
        }
        return replica.book.order[position];
    }

    public int balance(int node, int account) throws IndexOutOfBoundsException {
        Replica replica = replicaOf(node);
        if (!isAccount(account)) {
            return NONE;
        }
        return replica.book.balances[account];
    }

    private Replica replicaOf(int node) {
        if (node < 0 || node >= NODES) {
            throw new IndexOutOfBoundsException("no such node");
        }
        return replicas[node];
    }

    private Replica upReplica(int node) {
        Replica replica = replicaOf(node);
        if (!replica.isUp()) {
            throw new IllegalStateException("the node is down or faulty");
        }
        return replica;
    }

    private boolean isTransferOrNone(int number) {
        return number == NONE || transfers.has(number);
    }

    private static boolean isAccount(int account) {
        return account >= 0 && account < ACCOUNTS;
    }

    private static int leaderOf(int evenRound) {
        return (evenRound / 2) % NODES;
    }

    private static boolean contains(int set, int node) {
        return (set >> node & 1) == 1;
    }

    /** All transfers that were submitted, by number. */
    private static final class Transfers {
        final int[] froms = new int[MAX_TRANSFERS];
        final int[] tos = new int[MAX_TRANSFERS];
        final int[] amounts = new int[MAX_TRANSFERS];
        int count;

        boolean has(int transfer) {
            return transfer >= 0 && transfer < count;
        }

        boolean isFull() {
            return count >= MAX_TRANSFERS;
        }

        int add(int from, int to, int amount) {
            froms[count] = from;
            tos[count] = to;
            amounts[count] = amount;
            count++;
            return count - 1;
        }
    }

    /** All vertices that were made or forged, by number. */
    private static final class Vertices {
        final int[] authors = new int[MAX_VERTICES];
        final int[] rounds = new int[MAX_VERTICES];
        final int[] parents = new int[MAX_VERTICES];
        final int[] firsts = new int[MAX_VERTICES];
        final int[] seconds = new int[MAX_VERTICES];
        int count;

        boolean has(int v) {
            return v >= 0 && v < count;
        }

        boolean isFull() {
            return count >= MAX_VERTICES;
        }

        int add(int author, int round, int parentSet, int first, int second) {
            authors[count] = author;
            rounds[count] = round;
            parents[count] = parentSet;
            firsts[count] = first;
            seconds[count] = second;
            count++;
            return count - 1;
        }

        boolean isWellFormed(int v) {
            if (rounds[v] == 1) {
                return parents[v] == 0;
            }
            return Integer.bitCount(parents[v]) >= QUORUM;
        }

        boolean comesBefore(int v, int other) {
            if (rounds[v] != rounds[other]) {
                return rounds[v] < rounds[other];
            }
            return authors[v] < authors[other];
        }
    }

    /** The messages, which lie there for good. */
    private static final class Board {
        final int[] kinds = new int[BOARD_ROOM];
        final int[] senders = new int[BOARD_ROOM];
        final int[] subjects = new int[BOARD_ROOM];
        int count;

        boolean has(int m) {
            return m >= 0 && m < count;
        }

        boolean isFull() {
            return count >= BOARD_LIMIT;
        }

        int post(int kind, int sender, int v) {
            kinds[count] = kind;
            senders[count] = sender;
            subjects[count] = v;
            count++;
            return count - 1;
        }
    }

    /** What a node wrote down: it outlives every crash. */
    private static final class Disk {
        final int[] own = new int[MAX_TRANSFERS];
        int ownCount;
        // A vertex always takes from the queue's head, so the queue is what lies from here on.
        int queueHead;
        // For each author the rounds of which a vertex was echoed or readied, a bit each.
        final int[] echoedRounds = new int[NODES];
        final int[] readiedRounds = new int[NODES];
        int round;
        int records;

        void keepTransfer(int transfer) {
            own[ownCount] = transfer;
            ownCount++;
        }

        int queueLength() {
            return ownCount - queueHead;
        }

        int nextOfQueue() {
            if (queueHead >= ownCount) {
                return NONE;
            }
            queueHead++;
            return own[queueHead - 1];
        }
    }

    /** Which nodes a node has heard echo a vertex or be ready for it, as sets. */
    private static final class Notes {
        private final int[] echoes = new int[MAX_VERTICES];
        private final int[] readies = new int[MAX_VERTICES];
        // The delivered vertices that are not in the DAG.
        final int[] waiting = new int[MAX_VERTICES];
        int waitingCount;

        int noteEcho(int v, int sender) {
            echoes[v] |= 1 << sender;
            return Integer.bitCount(echoes[v]);
        }

        int noteReady(int v, int sender) {
            int before = Integer.bitCount(readies[v]);
            readies[v] |= 1 << sender;
            int now = Integer.bitCount(readies[v]);
            if (before < QUORUM && now >= QUORUM) {
                waiting[waitingCount] = v;
                waitingCount++;
            }
            return now;
        }

        void stopWaiting(int index) {
            waitingCount--;
            waiting[index] = waiting[waitingCount];
        }

        void clear() {
            Arrays.fill(echoes, 0);
            Arrays.fill(readies, 0);
            waitingCount = 0;
        }
    }

    /** The vertices that a node has put on their parents. */
    private static final class Dag {
        private final Vertices vertices;
        // By round and author. Rounds 0 and ROUNDS + 1 stay empty: they spare their neighbours a special case.
        private final int[] slots = new int[(ROUNDS + 2) * NODES];
        private final int[] authorSets = new int[ROUNDS + 2];
        int count;

        Dag(Vertices vertices) {
            this.vertices = vertices;
            Arrays.fill(slots, NONE);
        }

        int find(int author, int round) {
            return slots[round * NODES + author];
        }

        boolean holds(int author, int round) {
            return slots[round * NODES + author] != NONE;
        }

        int authorsOf(int round) {
            return authorSets[round];
        }

        boolean canTake(int v) {
            int round = vertices.rounds[v];
            return vertices.isWellFormed(v) && !holds(vertices.authors[v], round)
                    && (vertices.parents[v] & ~authorSets[round - 1]) == 0;
        }

        void insert(int v) {
            int author = vertices.authors[v];
            int round = vertices.rounds[v];
            slots[round * NODES + author] = v;
            authorSets[round] |= 1 << author;
            count++;
        }

        /** The authors of the round before on whose vertices the given ones of a round stand. */
        int parentsOf(int authors, int round) {
            int found = 0;
            for (int author = 0; author < NODES; author++) {
                int v = slots[round * NODES + author];
                if (v != NONE && contains(authors, author)) {
                    found |= vertices.parents[v];
                }
            }
            return found;
        }

        int countStandingOn(int author, int round) {
            int standing = 0;
            for (int child = 0; child < NODES; child++) {
                int v = slots[(round + 1) * NODES + child];
                if (v != NONE && contains(vertices.parents[v], author)) {
                    standing++;
                }
            }
            return standing;
        }

        void clear() {
            Arrays.fill(slots, NONE);
            Arrays.fill(authorSets, 0);
            count = 0;
        }
    }

    /** The transfers that a node has put in order, and what they did to the balances. */
    private static final class Book {
        private final Transfers transfers;
        final int[] order = new int[MAX_TRANSFERS];
        int count;
        private long placed;
        final int[] balances = new int[ACCOUNTS];

        Book(Transfers transfers) {
            this.transfers = transfers;
            Arrays.fill(balances, FIRST_BALANCE);
        }

        void place(int transfer) {
            if (transfer == NONE || (placed >> transfer & 1L) == 1L) {
                return;
            }
            placed |= 1L << transfer;
            order[count] = transfer;
            count++;
            int amount = transfers.amounts[transfer];
            if (balances[transfers.froms[transfer]] >= amount) {
                balances[transfers.froms[transfer]] -= amount;
                balances[transfers.tos[transfer]] += amount;
            }
        }

        void open() {
            Arrays.fill(balances, FIRST_BALANCE);
        }

        void clear() {
            Arrays.fill(balances, 0);
            count = 0;
            placed = 0L;
        }
    }

    /** Which leaders a node has committed, and which vertices it emitted for them. */
    private static final class Commits {
        private final Vertices vertices;
        private final Dag dag;
        private final Book book;
        // By round, sets of authors.
        private final int[] emitted = new int[ROUNDS + 1];
        private final int[] reached = new int[ROUNDS + 1];
        int last;

        Commits(Vertices vertices, Dag dag, Book book) {
            this.vertices = vertices;
            this.dag = dag;
            this.book = book;
        }

        boolean commitNext() {
            int round = nextRound();
            if (round == NONE) {
                return false;
            }
            int chain = leadersUnder(round);
            for (int w = last + 2; w <= round; w += 2) {
                if (contains(chain, w)) {
                    emit(leaderOf(w), w);
                }
            }
            last = round;
            return true;
        }

        private int nextRound() {
            for (int w = last + 2; w <= ROUNDS; w += 2) {
                int leader = leaderOf(w);
                if (dag.holds(leader, w) && dag.countStandingOn(leader, w) >= ONE_HONEST) {
                    return w;
                }
            }
            return NONE;
        }

        /** The rounds, a bit each, whose leaders are committed with that of a round. */
        private int leadersUnder(int round) {
            int chain = 1 << round;
            int authors = 1 << leaderOf(round);
            for (int r = round - 1; r > last; r--) {
                authors = dag.parentsOf(authors, r + 1);
                if (r % 2 == 0 && contains(authors, leaderOf(r))) {
                    chain |= 1 << r;
                    authors = 1 << leaderOf(r);
                }
            }
            return chain;
        }

        private void emit(int author, int round) {
            reached[round] = 1 << author;
            for (int r = round - 1; r >= 1; r--) {
                reached[r] = dag.parentsOf(reached[r + 1], r + 1);
            }
            for (int r = 1; r <= round; r++) {
                emitRound(r, reached[r] & ~emitted[r]);
                emitted[r] |= reached[r];
            }
        }

        private void emitRound(int round, int authors) {
            for (int author = 0; author < NODES; author++) {
                int v = dag.find(author, round);
                if (v != NONE && contains(authors, author)) {
                    book.place(vertices.firsts[v]);
                    book.place(vertices.seconds[v]);
                }
            }
        }

        void clear() {
            Arrays.fill(emitted, 0);
            last = 0;
        }
    }

    /** A node. While it is down, all but its disk is as empty as the document tells: who asks need not look first. */
    private static final class Replica {
        private final int id;
        private final Board board;
        private final Vertices vertices;
        final Disk disk = new Disk();
        private final Notes notes = new Notes();
        final Dag dag;
        final Book book;
        final Commits commits;
        int state = UP;
        int mark;
        int timer;
        private boolean cutIsSet;
        private int recordsBeforeCut;

        Replica(int id, Board board, Vertices vertices, Transfers transfers) {
            this.id = id;
            this.board = board;
            this.vertices = vertices;
            dag = new Dag(vertices);
            book = new Book(transfers);
            commits = new Commits(vertices, dag, book);
        }

        boolean isUp() {
            return state == UP;
        }

        void goDown() {
            state = DOWN;
            cutIsSet = false;
            mark = 0;
            timer = 0;
            notes.clear();
            dag.clear();
            commits.clear();
            book.clear();
        }

        void comeUp() {
            state = UP;
            book.open();
        }

        void setCut(int records) {
            cutIsSet = true;
            recordsBeforeCut = records;
        }

        /** False: the cut came first, and the node is down. */
        boolean writeRecord() {
            if (cutIsSet && recordsBeforeCut == 0) {
                goDown();
                return false;
            }
            if (cutIsSet) {
                recordsBeforeCut--;
            }
            disk.records++;
            return true;
        }

        void passTime() {
            timer = Math.min(timer + 1, TIMER_TOP);
            act();
        }

        void take(int m) {
            int v = board.subjects[m];
            int sender = board.senders[m];
            switch (board.kinds[m]) {
                case SEND: takeSend(v, sender); break;
                case ECHO: takeEcho(v, sender); break;
                default: takeReady(v, sender); break;
            }
            act();
        }

        private void takeSend(int v, int sender) {
            int author = vertices.authors[v];
            int round = vertices.rounds[v];
            if (sender != author || !vertices.isWellFormed(v)
                    || contains(disk.echoedRounds[author], round)) {
                return;
            }
            if (writeRecord()) {
                disk.echoedRounds[author] |= 1 << round;
                board.post(ECHO, id, v);
            }
        }

        private void takeEcho(int v, int sender) {
            if (notes.noteEcho(v, sender) >= QUORUM) {
                becomeReady(v);
            }
        }

        private void takeReady(int v, int sender) {
            if (notes.noteReady(v, sender) >= ONE_HONEST) {
                becomeReady(v);
            }
        }

        private void becomeReady(int v) {
            int author = vertices.authors[v];
            int round = vertices.rounds[v];
            if (contains(disk.readiedRounds[author], round)) {
                return;
            }
            if (writeRecord()) {
                disk.readiedRounds[author] |= 1 << round;
                board.post(READY, id, v);
            }
        }

        void act() {
            for (int step = 0; step < MAX_STEPS && isUp(); step++) {
                if (!insertNext() && !commits.commitNext() && !advance()) {
                    return;
                }
            }
        }

        private boolean insertNext() {
            int next = NONE;
            for (int i = 0; i < notes.waitingCount; i++) {
                int v = notes.waiting[i];
                if (dag.canTake(v) && (next == NONE || vertices.comesBefore(v, notes.waiting[next]))) {
                    next = i;
                }
            }
            if (next == NONE) {
                return false;
            }
            dag.insert(notes.waiting[next]);
            notes.stopWaiting(next);
            return true;
        }

        private boolean advance() {
            if (!mayAdvance()) {
                return false;
            }
            if (writeRecord()) {
                int parents = dag.authorsOf(disk.round);
                int first = disk.nextOfQueue();
                int second = disk.nextOfQueue();
                disk.round++;
                board.post(SEND, id, vertices.add(id, disk.round, parents, first, second));
                timer = 0;
            }
            return true;
        }

        private boolean mayAdvance() {
            int round = disk.round;
            if (vertices.isFull() || round >= ROUNDS) {
                return false;
            }
            if (round == 0) {
                return timer != 0;
            }
            if (!dag.holds(id, round) || Integer.bitCount(dag.authorsOf(round)) < QUORUM) {
                return false;
            }
            return round % 2 == 1 || dag.holds(leaderOf(round), round) || timer >= TIMER_TOP;
        }
    }
}
