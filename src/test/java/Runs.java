/** Runs that several tests begin with. */
final class Runs {
    private Runs() {
    }

    /** Nodes 0 to 3 with a few transfers, so many of them ticked once, all pumped in turn so many times. */
    static Counted fourNodes(int ticked, int sweeps) {
        Counted x = new Counted();
        x.submit(0, 0, 1, 30);
        x.submit(1, 1, 2, 120);
        x.submit(0, 2, 3, 5);
        for (int node = 0; node < ticked; node++) {
            x.tick(node);
        }
        sweep(x, sweeps, 0, 1, 2, 3);
        return x;
    }

    static void sweep(Counted x, int times, int... nodes) {
        for (int i = 0; i < times; i++) {
            for (int node : nodes) {
                x.pump(node, 50);
            }
        }
    }

    static void tick(Counted x, int node, int times) {
        for (int i = 0; i < times; i++) {
            x.tick(node);
        }
    }
}
