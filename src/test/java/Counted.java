/** An object whose calls are counted, for after 512 of them its answers are free: no test may ask for more. */
final class Counted {
    private static final int MOST = 512;

    private final DagLedger ledger = new DagLedger();
    private int calls = 0;

    private DagLedger next() {
        calls++;
        if (calls == MOST + 1) {
            Check.tell("a test has made more than " + MOST + " calls of one object");
        }
        return ledger;
    }

    int callsLeft() {
        return MOST - calls;
    }

    int submit(int node, int from, int to, int amount) {
        return next().submit(node, from, to, amount);
    }

    boolean deliver(int message, int node) {
        return next().deliver(message, node);
    }

    int pump(int node, int n) {
        return next().pump(node, n);
    }

    boolean tick(int node) {
        return next().tick(node);
    }

    boolean crash(int node) {
        return next().crash(node);
    }

    boolean restart(int node) {
        return next().restart(node);
    }

    boolean cut(int node, int k) {
        return next().cut(node, k);
    }

    boolean corrupt(int node) {
        return next().corrupt(node);
    }

    int forge(int round, int parents, int a, int b) {
        return next().forge(round, parents, a, b);
    }

    int send(int kind, int vertex) {
        return next().send(kind, vertex);
    }

    int message(int m, int what) {
        return next().message(m, what);
    }

    int vertex(int v, int what) {
        return next().vertex(v, what);
    }

    int node(int node, int what) {
        return next().node(node, what);
    }

    int dag(int node, int author, int round) {
        return next().dag(node, author, round);
    }

    int at(int node, int position) {
        return next().at(node, position);
    }

    int balance(int node, int account) {
        return next().balance(node, account);
    }
}
