import java.util.HashMap;

/**
 * An object whose messages are dealt out one by one. A model goes along to find their numbers, so that the object
 * itself is not asked for them: its calls are numbered.
 */
final class Stage {
    final Counted x = new Counted();
    private final Model model = new Model(new HashMap<>());
    private final int[] honest;

    Stage(int... honest) {
        this.honest = honest;
    }

    void submit(int node, int from, int to, int amount) {
        Check.due("submit", x.submit(node, from, to, amount), model.submit(node, from, to, amount));
    }

    void corrupt(int node) {
        x.corrupt(node);
        model.corrupt(node);
    }

    void fallAndRise(int node) {
        Check.yes("crash", x.crash(node) && model.crash(node));
        Check.yes("restart", x.restart(node) && model.restart(node));
    }

    void tick(int node, int times) {
        for (int i = 0; i < times; i++) {
            x.tick(node);
            model.tick(node);
        }
    }

    void sweep(int times) {
        for (int i = 0; i < times; i++) {
            for (int node : honest) {
                Check.due("pump", x.pump(node, 50), model.pump(node, 50));
            }
        }
    }

    int forge(int round, int parents, int transfer) {
        model.forge(round, parents, transfer, -1);
        return x.forge(round, parents, transfer, -1);
    }

    /** The vertex that a node made last. */
    int madeLast(int node) {
        for (int v = model.vertexCount() - 1; v >= 0; v--) {
            if (model.vertex(v, 0) == node) {
                return v;
            }
        }
        return -1;
    }

    /** All honest nodes take SEND and the echoes of a vertex, and some take what is ready for it. */
    void spread(int vertex, int... to) {
        deliver(0, vertex, honest);
        deliver(1, vertex, honest);
        deliver(2, vertex, to);
    }

    void deliverReadies(int vertex, int node) {
        deliver(2, vertex, node);
    }

    private void deliver(int kind, int vertex, int... to) {
        int messages = model.messages();
        for (int m = 0; m < messages; m++) {
            if (model.message(m, 0) == kind && model.message(m, 2) == vertex) {
                for (int node : to) {
                    Check.due("deliver", x.deliver(m, node) ? 1 : 0, model.deliver(m, node) ? 1 : 0);
                }
            }
        }
    }
}
