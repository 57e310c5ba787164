/** What a node does when it takes SEND, ECHO and READY, and when a vertex comes into its DAG. */
public final class BroadcastTest {
    public static void main(String[] args) {
        echoesReadiesAndDelivers();
        keepsItsWordOverACrash();
        losesWhatItNoted();
        echoesOneOfTwo();
        echoesOnlyWhatIsWellFormed();
        echoesOnlyTheAuthorsSend();
        countsEachVertexByItself();
        waitsForParents();
        goesOnWithoutOneNode();
        Check.end();
    }

    private static void messageIs(Counted x, int m, int kind, int sender, int vertex) {
        Check.due("kind of message " + m, x.message(m, 0), kind);
        Check.due("sender of message " + m, x.message(m, 1), sender);
        Check.due("vertex of message " + m, x.message(m, 2), vertex);
    }

    private static void deliver(Counted x, int node, int... messages) {
        for (int m : messages) {
            Check.yes("deliver(" + m + ", " + node + ")", x.deliver(m, node));
        }
    }

    /** Vertex 0 of node 0: SEND is 0; echoes of 1, 0, 2 are 1, 2, 3; readies of 3, 1, 0 are 4, 5, 6. */
    private static Counted oneVertexSpread() {
        Counted x = new Counted();
        x.tick(0);
        deliver(x, 1, 0);
        deliver(x, 0, 0);
        deliver(x, 2, 0);
        deliver(x, 3, 1, 2, 3);
        deliver(x, 1, 1, 2, 3);
        deliver(x, 0, 4, 5);
        return x;
    }

    private static void echoesReadiesAndDelivers() {
        Counted x = new Counted();
        x.tick(0);
        deliver(x, 1, 0);
        messageIs(x, 1, 1, 1, 0);
        deliver(x, 1, 0);
        Check.due("an echo is sent once", x.message(2, 0), -1);
        deliver(x, 0, 0);
        deliver(x, 2, 0);
        deliver(x, 3, 1, 1, 1, 2);
        Check.due("two nodes' echoes are too few", x.message(4, 0), -1);
        deliver(x, 3, 3);
        messageIs(x, 4, 2, 3, 0);
        deliver(x, 3, 1, 2, 3);
        Check.due("a ready is sent once", x.message(5, 0), -1);
        deliver(x, 1, 1, 2, 3);
        messageIs(x, 5, 2, 1, 0);
        deliver(x, 0, 4, 4);
        Check.due("one node's ready is too few", x.message(6, 0), -1);
        deliver(x, 0, 5);
        messageIs(x, 6, 2, 0, 0);
        Check.due("two ready deliver nothing", x.node(0, 5), 0);
        deliver(x, 0, 6);
        Check.due("three ready deliver", x.dag(0, 0, 1), 0);
        deliver(x, 0, 4, 5, 6);
        Check.due("once", x.node(0, 5), 1);
        Check.due("others have it not", x.dag(1, 0, 1), -1);
        Check.due("records: vertex, echo, ready", x.node(0, 8), 3);
        Check.due("records: ready", x.node(3, 8), 1);
        Check.due("one of a round is too few to advance", x.node(0, 1), 1);
    }

    private static void keepsItsWordOverACrash() {
        Counted x = oneVertexSpread();
        deliver(x, 0, 6);
        x.crash(0);
        x.restart(0);
        deliver(x, 0, 0, 1, 2, 3, 4, 5);
        Check.due("no second echo and no second ready", x.message(7, 0), -1);
        Check.due("two ready, as before the crash none", x.node(0, 5), 0);
        deliver(x, 0, 6);
        Check.due("three ready", x.dag(0, 0, 1), 0);
        deliver(x, 2, 4);
        x.crash(2);
        x.restart(2);
        deliver(x, 2, 5);
        Check.due("what was noted is lost", x.message(7, 0), -1);
        deliver(x, 2, 4);
        messageIs(x, 7, 2, 2, 0);
    }

    private static void losesWhatItNoted() {
        Counted x = new Counted();
        x.tick(0);
        deliver(x, 0, 0);
        deliver(x, 1, 0);
        deliver(x, 2, 0);
        deliver(x, 3, 1, 2);
        x.crash(3);
        x.restart(3);
        deliver(x, 3, 3);
        Check.due("two echoes were lost", x.message(4, 0), -1);
        deliver(x, 3, 1, 2);
        messageIs(x, 4, 2, 3, 0);
    }

    private static void echoesOneOfTwo() {
        Counted x = new Counted();
        x.corrupt(3);
        x.forge(1, 0, -1, -1);
        x.forge(1, 0, -1, -1);
        x.forge(2, 7, -1, -1);
        deliver(x, 0, 1, 0);
        messageIs(x, 3, 1, 0, 1);
        Check.due("the other one is not echoed", x.message(4, 0), -1);
        deliver(x, 0, 2);
        messageIs(x, 4, 1, 0, 2);
        x.crash(0);
        x.restart(0);
        deliver(x, 0, 0);
        Check.due("nor after a crash", x.message(5, 0), -1);
    }

    private static void echoesOnlyWhatIsWellFormed() {
        Counted x = new Counted();
        x.corrupt(3);
        x.forge(1, 7, -1, -1);
        x.forge(1, 1, -1, -1);
        x.forge(2, 0, -1, -1);
        x.forge(2, 3, -1, -1);
        x.forge(14, 10, -1, -1);
        deliver(x, 0, 0, 1, 2, 3, 4);
        Check.due("none is well formed", x.message(5, 0), -1);
        x.forge(1, 0, -1, -1);
        x.forge(2, 13, -1, -1);
        x.forge(14, 15, -1, -1);
        deliver(x, 0, 5, 6, 7);
        messageIs(x, 8, 1, 0, 5);
        messageIs(x, 9, 1, 0, 6);
        messageIs(x, 10, 1, 0, 7);
    }

    private static void echoesOnlyTheAuthorsSend() {
        Counted x = new Counted();
        x.tick(0);
        x.corrupt(3);
        x.send(0, 0);
        deliver(x, 1, 1);
        Check.due("SEND of another", x.message(2, 0), -1);
        deliver(x, 1, 0);
        messageIs(x, 2, 1, 1, 0);
    }

    private static void countsEachVertexByItself() {
        Counted x = new Counted();
        x.corrupt(3);
        x.forge(1, 0, -1, -1);
        x.forge(1, 0, -1, -1);
        deliver(x, 0, 0);
        deliver(x, 1, 1);
        deliver(x, 2, 1);
        x.send(1, 0);
        x.send(1, 1);
        x.send(2, 0);
        x.send(2, 1);
        deliver(x, 0, 2, 3, 5);
        Check.due("two echoes for each, one in common", x.message(9, 0), -1);
        deliver(x, 0, 4);
        Check.due("two echoes of 0, two of 1", x.message(9, 0), -1);
        deliver(x, 0, 7, 8);
        Check.due("one ready for each", x.message(9, 0), -1);
        deliver(x, 0, 6);
        messageIs(x, 9, 2, 0, 1);
        deliver(x, 1, 3, 4, 6);
        messageIs(x, 10, 2, 1, 1);
        deliver(x, 0, 10);
        Check.due("three ready for the second", x.node(0, 5), 0);
        deliver(x, 0, 9);
        Check.due("the second it is", x.dag(0, 3, 1), 1);
        deliver(x, 2, 7, 8, 9, 10);
        messageIs(x, 11, 2, 2, 1);
        Check.due("everywhere", x.dag(2, 3, 1), 1);
    }

    private static void waitsForParents() {
        Counted x = Runs.fourNodes(4, 4);
        int child = x.dag(0, 0, 2);
        Check.yes("a vertex of round 2 is there", child >= 0);
        int parents = x.vertex(child, 2);
        int messages = x.node(0, 3);
        int[] vertexOfReady = new int[messages];
        for (int m = 0; m < messages; m++) {
            vertexOfReady[m] = x.message(m, 0) == 2 ? x.message(m, 2) : -1;
        }
        x.crash(3);
        x.restart(3);
        deliverReadies(x, vertexOfReady, child);
        Check.due("its parents are not there", x.node(3, 5), 0);
        int here = 0;
        for (int author = 0; author < 4; author++) {
            if ((parents >> author & 1) == 1) {
                Check.due("the child waits", x.dag(3, 0, 2), -1);
                deliverReadies(x, vertexOfReady, x.dag(0, author, 1));
                here++;
            }
        }
        Check.due("the child came with its last parent", x.dag(3, 0, 2), child);
        Check.due("and nothing else", x.node(3, 5), here + 1);
    }

    private static void deliverReadies(Counted x, int[] vertexOfReady, int vertex) {
        for (int m = 0; m < vertexOfReady.length; m++) {
            if (vertexOfReady[m] == vertex) {
                x.deliver(m, 3);
            }
        }
    }

    private static void goesOnWithoutOneNode() {
        Counted x = new Counted();
        for (int node = 0; node < 3; node++) {
            x.tick(node);
        }
        x.crash(3);
        Runs.sweep(x, 16, 0, 1, 2);
        // The leaders of rounds 2 and 4 are nodes 1 and 2, that of round 6 is node 3.
        for (int node = 0; node < 3; node++) {
            Check.due("it waits for the leader of round 6", x.node(node, 1), 6);
            Check.due("with all of round 6", x.node(node, 5), 18);
            Check.due("round 4 is committed", x.node(node, 4), 4);
            Check.due("parents", x.vertex(x.dag(node, node, 6), 2), 7);
        }
        Runs.tick(x, 0, 2);
        Check.due("the timer runs", x.node(0, 2), 2);
        Check.due("two ticks are too few", x.node(0, 1), 6);
        Runs.tick(x, 0, 1);
        Check.due("three are enough", x.node(0, 1), 7);
        Check.due("the timer is 0 again", x.node(0, 2), 0);
    }
}
