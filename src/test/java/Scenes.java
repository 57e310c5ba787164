/** Situations that several tests begin in. */
final class Scenes {
    static final int BOARD_LIMIT = 800;

    private Scenes() {
    }

    /** Transfers on their way, some of them done; node 0's timer runs, 1 is cut after a record, 2 is down. */
    static void underWay(Counted x) {
        x.submit(0, 0, 1, 30);
        x.submit(1, 1, 2, 120);
        x.submit(3, 2, 3, 5);
        for (int node = 0; node < 4; node++) {
            x.tick(node);
        }
        Runs.sweep(x, 10, 0, 1, 2, 3);
        for (int node = 0; node < 4; node++) {
            x.submit(node, 3, 0, 7);
        }
        Runs.tick(x, 0, 2);
        x.crash(2);
        x.cut(1, 1);
    }

    /** As underWay, and node 3 is faulty; what it forged is not taken yet. */
    static void underWayWithFaulty(Counted x) {
        underWay(x);
        x.corrupt(3);
        x.forge(14, 7, 0, 1);
        x.send(2, 0);
    }

    static void fortyTransfers(Counted x) {
        for (int i = 0; i < 40; i++) {
            x.submit(i % 4, 0, 1, 1);
        }
    }

    /** Ninety vertices, all forged by node 3. */
    static void ninetyVertices(Counted x) {
        x.submit(0, 0, 1, 1);
        x.corrupt(3);
        for (int i = 0; i < 90; i++) {
            x.forge(14, 7, -1, -1);
        }
    }

    /**
     * The four nodes are through all fourteen rounds and have taken everything: 504 messages lie there, a SEND, four
     * ECHO and four READY of each of the 56 vertices.
     */
    static void fourteenRounds(Counted x) {
        for (int node = 0; node < 4; node++) {
            x.tick(node);
        }
        Runs.sweep(x, 23, 0, 1, 2, 3);
    }

    /** Node 3 becomes faulty after fourteenRounds and says what nobody needs until so many messages lie there. */
    static Scene talkUntil(int messages) {
        return x -> {
            fourteenRounds(x);
            x.corrupt(3);
            talk(x, messages);
        };
    }

    /** The faulty node sends until so many messages lie there. */
    static void talk(Counted x, int messages) {
        int sent = x.send(2, 0);
        while (sent >= 0 && sent < messages - 1) {
            sent = x.send(2, 0);
        }
        Check.due("the last of " + messages + " messages", sent, messages - 1);
    }

    /** As talkUntil(800), but node 1 is down, and node 2 is cut at its next record. */
    static void fullBoard(Counted x) {
        fourteenRounds(x);
        x.tick(0);
        x.crash(1);
        x.cut(2, 0);
        x.corrupt(3);
        talk(x, BOARD_LIMIT);
    }

    /** What a node would do next tells what cannot be asked of it: what it noted, and a cut that is set. */
    static void goOn(Counted x) {
        for (int i = 0; i < 4; i++) {
            int node = i;
            Check.answer(() -> x.submit(node, 0, 1, 1));
            Check.answer(() -> x.pump(node, 50));
            Check.answer(() -> Check.bit(x.tick(node)));
        }
        x.forge(13, 7, -1, -1);
        for (int i = 0; i < 4; i++) {
            int node = i;
            Check.answer(() -> Check.bit(x.restart(node)));
            Check.answer(() -> x.submit(node, 1, 0, 1));
            Check.answer(() -> x.pump(node, 50));
        }
        x.corrupt(0);
        x.send(1, 0);
    }
}
