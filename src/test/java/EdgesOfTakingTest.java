/** How many echoes and readies it takes, and what a node answers once only. */
public final class EdgesOfTakingTest {
    public static void main(String[] args) {
        echoOnlyForTheAuthor();
        echoOncePerAuthorAndRound();
        echoOnceAlsoAfterACrash();
        twoEchoesAreTooFew();
        oneNodesEchoesCountOnce();
        itsOwnEchoCountsWhenItIsTaken();
        readyOnceForEchoes();
        oneReadyIsTooFew();
        readyOnceForReadies();
        readyOnceAlsoAfterACrash();
        twoReadyDeliverNothing();
        echoesAndReadiesAreCountedApart();
        vertexesAreCountedApart();
        Check.end();
    }

    private static void deliver(Counted x, int node, int... messages) {
        for (int m : messages) {
            Check.yes("deliver(" + m + ", " + node + ")", x.deliver(m, node));
        }
    }

    private static void lastIs(Counted x, int m, int kind, int sender, int vertex) {
        Check.due("kind of message " + m, x.message(m, 0), kind);
        Check.due("sender of message " + m, x.message(m, 1), sender);
        Check.due("vertex of message " + m, x.message(m, 2), vertex);
        Check.due("no message behind " + m, x.message(m + 1, 0), -1);
    }

    /** Vertex 0 of node 0: its SEND is message 0, its echoes by nodes 0, 1, 2, 3 are 1, 2, 3, 4. */
    private static Counted echoed() {
        Counted x = new Counted();
        x.tick(0);
        for (int node = 0; node < 4; node++) {
            deliver(x, node, 0);
            lastIs(x, node + 1, 1, node, 0);
        }
        return x;
    }

    /** As echoed; nodes 1, 2, 3 are ready by echoes, in messages 5, 6, 7. */
    private static Counted readied() {
        Counted x = echoed();
        for (int node = 1; node < 4; node++) {
            deliver(x, node, 2, 3, 4);
            lastIs(x, node + 4, 2, node, 0);
        }
        return x;
    }

    private static void echoOnlyForTheAuthor() {
        Check.about("SEND v: if s is the author of v");
        Counted x = new Counted();
        x.tick(0);
        x.corrupt(3);
        x.send(0, 0);
        deliver(x, 1, 1);
        lastIs(x, 1, 0, 3, 0);
        Check.due("records", x.node(1, 8), 0);
        deliver(x, 1, 0);
        lastIs(x, 2, 1, 1, 0);
        Check.due("records", x.node(1, 8), 1);
        x.forge(1, 0, -1, -1);
        x.send(0, 1);
        deliver(x, 1, 4);
        lastIs(x, 5, 1, 1, 1);
    }

    private static void echoOncePerAuthorAndRound() {
        Check.about("r ECHOED no vertex of that author and round");
        Counted x = new Counted();
        x.corrupt(3);
        x.forge(1, 0, -1, -1);
        x.forge(1, 0, -1, -1);
        x.forge(2, 7, -1, -1);
        x.forge(2, 11, -1, -1);
        x.tick(0);
        deliver(x, 1, 0);
        lastIs(x, 5, 1, 1, 0);
        deliver(x, 1, 0, 1);
        lastIs(x, 5, 1, 1, 0);
        deliver(x, 1, 4);
        lastIs(x, 6, 1, 1, 4);
        deliver(x, 1, 3);
        lastIs(x, 7, 1, 1, 3);
        deliver(x, 1, 2);
        lastIs(x, 7, 1, 1, 3);
        Check.due("records", x.node(1, 8), 3);
        deliver(x, 2, 1);
        lastIs(x, 8, 1, 2, 1);
    }

    private static void echoOnceAlsoAfterACrash() {
        Check.about("never lost: .. the vertices that it .. ECHOED");
        Counted x = new Counted();
        x.corrupt(3);
        x.forge(1, 0, -1, -1);
        x.forge(1, 0, -1, -1);
        deliver(x, 1, 0);
        x.crash(1);
        x.restart(1);
        deliver(x, 1, 0, 1);
        lastIs(x, 2, 1, 1, 0);
        Check.due("records", x.node(1, 8), 1);
    }

    private static void twoEchoesAreTooFew() {
        Check.about("ECHO v: If three nodes do");
        Counted x = echoed();
        deliver(x, 3, 1, 2);
        lastIs(x, 4, 1, 3, 0);
        Check.due("records", x.node(3, 8), 1);
        deliver(x, 3, 3);
        lastIs(x, 5, 2, 3, 0);
        Check.due("records", x.node(3, 8), 2);
    }

    private static void oneNodesEchoesCountOnce() {
        Check.about("it notes that s echoes v");
        Counted x = echoed();
        deliver(x, 3, 1, 1, 1, 2, 2, 1);
        lastIs(x, 4, 1, 3, 0);
        deliver(x, 3, 4);
        lastIs(x, 5, 2, 3, 0);
    }

    private static void itsOwnEchoCountsWhenItIsTaken() {
        Check.about("it notes that s echoes v");
        Counted x = echoed();
        deliver(x, 0, 2, 3);
        lastIs(x, 4, 1, 3, 0);
        deliver(x, 0, 1);
        lastIs(x, 5, 2, 0, 0);
    }

    private static void readyOnceForEchoes() {
        Check.about("ECHO v: .. r READIED no vertex of that author and round");
        Counted x = readied();
        deliver(x, 3, 1, 2, 3, 4);
        lastIs(x, 7, 2, 3, 0);
        Check.due("records", x.node(3, 8), 2);
    }

    private static void oneReadyIsTooFew() {
        Check.about("READY v: If two are");
        Counted x = readied();
        deliver(x, 0, 5, 5, 5);
        lastIs(x, 7, 2, 3, 0);
        Check.due("records", x.node(0, 8), 2);
        deliver(x, 0, 7);
        lastIs(x, 8, 2, 0, 0);
        Check.due("records", x.node(0, 8), 3);
    }

    private static void readyOnceForReadies() {
        Check.about("READY v: .. r READIED no vertex of that author and round");
        Counted x = readied();
        deliver(x, 0, 5, 6);
        lastIs(x, 8, 2, 0, 0);
        deliver(x, 0, 7, 8, 5, 6, 1, 2, 3, 4);
        lastIs(x, 8, 2, 0, 0);
        deliver(x, 1, 5, 6, 7, 8);
        lastIs(x, 8, 2, 0, 0);
        Check.due("records", x.node(0, 8), 3);
        Check.due("records", x.node(1, 8), 2);
    }

    private static void readyOnceAlsoAfterACrash() {
        Check.about("never lost: .. the vertices that it .. READIED");
        Counted x = readied();
        x.crash(1);
        x.restart(1);
        deliver(x, 1, 1, 2, 3, 4, 5, 6, 7);
        lastIs(x, 7, 2, 3, 0);
        Check.due("records", x.node(1, 8), 2);
        Check.due("it is delivered all the same", x.dag(1, 0, 1), 0);
    }

    private static void twoReadyDeliverNothing() {
        Check.about("If three are ready for v, v is DELIVERED");
        Counted x = readied();
        deliver(x, 1, 5, 6, 6, 5);
        Check.due("dag", x.dag(1, 0, 1), -1);
        Check.due("in the DAG", x.node(1, 5), 0);
        deliver(x, 1, 7);
        Check.due("dag", x.dag(1, 0, 1), 0);
        Check.due("in the DAG", x.node(1, 5), 1);
        deliver(x, 1, 5, 6, 7);
        Check.due("in the DAG, once", x.node(1, 5), 1);
        deliver(x, 0, 5, 6);
        Check.due("its own READY counts when it is taken", x.dag(0, 0, 1), -1);
        deliver(x, 0, 8);
        Check.due("its own READY counts when it is taken", x.dag(0, 0, 1), 0);
    }

    private static void echoesAndReadiesAreCountedApart() {
        Check.about("it notes that s echoes v; it notes that s is ready for v");
        Counted x = readied();
        // Nodes 1 and 2 echo, and 3 is ready: neither three nor two.
        deliver(x, 0, 2, 3, 7);
        lastIs(x, 7, 2, 3, 0);
        deliver(x, 1, 2, 3, 4, 5, 6);
        Check.due("three echoes and two readies deliver nothing", x.node(1, 5), 0);
    }

    private static void vertexesAreCountedApart() {
        Check.about("it notes that s echoes v; it notes that s is ready for v");
        Counted x = new Counted();
        x.corrupt(3);
        x.forge(1, 0, -1, -1);
        x.forge(1, 0, -1, -1);
        deliver(x, 0, 0);
        deliver(x, 1, 0);
        deliver(x, 2, 1);
        Check.due("send", x.send(1, 1), 5);
        Check.due("send", x.send(2, 0), 6);
        Check.due("send", x.send(2, 1), 7);
        // Nodes 0 and 1 echo the one, 2 and 3 the other; 3 is ready for each.
        deliver(x, 0, 2, 3, 4, 5, 6, 7);
        lastIs(x, 7, 2, 3, 1);
    }
}
