/**
 * Which leaders are committed, and the order of what lies under them. Node 1 is faulty and the leader of round 2:
 * L, which it forges, is held back until some of the others have gone on without it.
 */
public final class OrderTest {
    private static final int[] HONEST = {0, 2, 3};

    public static void main(String[] args) {
        oneStandsOnTheLeader();
        twoStandOnTheLeader();
        noneStandsOnTheLeader();
        theLeaderIsNotThere();
        twoCommitsAtOnce();
        transfersAreDoneOnce();
        balancesAreGuarded();
        allFourteenRounds();
        Check.end();
    }

    /**
     * All honest nodes are in round 2 and have its three vertices. Transfers 0 and 1 are in node 0's first vertex, 2 is
     * in its second, 4 in node 3's first.
     */
    private static Counted roundTwoWithoutLeader() {
        Counted x = new Counted();
        x.submit(0, 0, 1, 1);
        x.submit(0, 0, 1, 2);
        x.submit(0, 0, 1, 4);
        x.submit(1, 0, 1, 8);
        x.submit(3, 0, 1, 16);
        x.corrupt(1);
        for (int node : HONEST) {
            x.tick(node);
        }
        Runs.sweep(x, 6, HONEST);
        for (int node : HONEST) {
            Check.due("round", x.node(node, 1), 2);
            Check.due("vertices", x.node(node, 5), 6);
            Check.due("the queue is empty", x.node(node, 7), 0);
        }
        Check.due("transfers of the first", x.vertex(x.dag(0, 0, 1), 4), 1);
        Check.due("transfers of the second", x.vertex(x.dag(0, 0, 2), 3), 2);
        Check.due("and no more", x.vertex(x.dag(0, 0, 2), 4), -1);
        return x;
    }

    private static int forgeLeader(Counted x) {
        return x.forge(2, 13, 3, 0);
    }

    /** The nodes that go on by the timer, so that L is no parent of theirs. */
    private static void goOnWithout(Counted x, int... nodes) {
        for (int node : nodes) {
            Runs.tick(x, node, 3);
            Check.due("it goes on by the timer", x.node(node, 1), 3);
        }
    }

    /** Pumps until the honest nodes have committed round 4; whether one of them said 2 before. */
    private static boolean saidTwo(Counted x) {
        boolean said = false;
        for (int i = 0; i < 12 && x.node(0, 4) < 4; i++) {
            for (int node : HONEST) {
                x.pump(node, 8);
                said |= x.node(node, 4) == 2;
            }
        }
        Runs.sweep(x, 3, HONEST);
        return said;
    }

    private static void orderIs(Counted x, int... due) {
        for (int node : HONEST) {
            Check.due("how many in node " + node, x.node(node, 6), due.length);
            for (int i = 0; i < due.length; i++) {
                Check.due("at(" + node + ", " + i + ")", x.at(node, i), due[i]);
            }
            Check.due("none behind", x.at(node, due.length), -1);
        }
    }

    private static void oneStandsOnTheLeader() {
        Counted x = roundTwoWithoutLeader();
        goOnWithout(x, 3, 2);
        int leader = forgeLeader(x);
        Check.no("one is too few to commit it", saidTwo(x));
        Check.due("it is in the DAG", x.dag(2, 1, 2), leader);
        Check.due("node 0 stands on it", x.vertex(x.dag(2, 0, 3), 2), 15);
        Check.due("node 2 does not", x.vertex(x.dag(2, 2, 3), 2), 13);
        Check.due("node 3 does not", x.vertex(x.dag(2, 3, 3), 2), 13);
        // With the leader of round 4, but before it: so 3 of L comes before 2 of node 0's vertex of round 2.
        orderIs(x, 0, 1, 4, 3, 2);
    }

    private static void twoStandOnTheLeader() {
        Counted x = roundTwoWithoutLeader();
        goOnWithout(x, 3);
        forgeLeader(x);
        Check.yes("two are enough", saidTwo(x));
        orderIs(x, 0, 1, 4, 3, 2);
    }

    private static void noneStandsOnTheLeader() {
        Counted x = roundTwoWithoutLeader();
        goOnWithout(x, 3, 2, 0);
        int leader = forgeLeader(x);
        Check.no("it is never committed", saidTwo(x));
        Check.due("it is in the DAG", x.dag(0, 1, 2), leader);
        Check.yes("a later one is", x.node(0, 4) >= 4);
        orderIs(x, 0, 1, 4, 2);
    }

    private static void theLeaderIsNotThere() {
        Counted x = roundTwoWithoutLeader();
        goOnWithout(x, 3, 2, 0);
        Check.no("there is none", saidTwo(x));
        Check.due("none", x.dag(0, 1, 2), -1);
        Check.yes("a later one is committed", x.node(0, 4) >= 4);
        orderIs(x, 0, 1, 4, 2);
    }

    /** Node 3 has all but a vertex of round 1; when that comes, all is put on it, and two leaders are committed. */
    private static void twoCommitsAtOnce() {
        Stage s = new Stage(0, 1, 2);
        for (int node = 0; node < 3; node++) {
            s.submit(node, node, 3, 10);
            s.tick(node, 1);
        }
        s.sweep(16);
        Check.due("node 0 has committed round 4", s.x.node(0, 4), 4);
        for (int v = 1; v < 18; v++) {
            s.deliverReadies(v, 3);
        }
        Check.due("two of round 1 are there", s.x.node(3, 5), 2);
        Check.due("nothing is committed", s.x.node(3, 4), 0);
        s.deliverReadies(0, 3);
        Check.due("all are there", s.x.node(3, 5), 18);
        Check.due("all is committed", s.x.node(3, 4), 4);
        Check.due("all is done", s.x.balance(3, 3), 130);
    }

    private static void transfersAreDoneOnce() {
        Counted x = new Counted();
        x.submit(0, 0, 1, 10);
        x.submit(2, 2, 3, 7);
        x.corrupt(3);
        x.forge(1, 0, 1, 1);
        for (int node = 0; node < 3; node++) {
            x.tick(node);
        }
        Runs.sweep(x, 12, 0, 1, 2);
        Check.due("the forged vertex is there", x.dag(0, 3, 1), 0);
        Check.yes("it was emitted", x.node(0, 4) >= 2);
        for (int node = 0; node < 3; node++) {
            Check.due("two in all", x.node(node, 6), 2);
            Check.due("first", x.at(node, 0), 0);
            Check.due("second", x.at(node, 1), 1);
            Check.due("from 0", x.balance(node, 0), 90);
            Check.due("to 1", x.balance(node, 1), 110);
            Check.due("from 2, once", x.balance(node, 2), 93);
            Check.due("to 3, once", x.balance(node, 3), 107);
        }
    }

    private static void balancesAreGuarded() {
        Counted x = new Counted();
        x.submit(0, 0, 1, 101);
        x.submit(0, 0, 2, 100);
        x.submit(1, 0, 1, 1);
        x.submit(2, 2, 3, 200);
        for (int node = 0; node < 4; node++) {
            x.tick(node);
        }
        Runs.sweep(x, 8, 0, 1, 2, 3);
        for (int i = 0; i < 4; i++) {
            Check.due("all have a position", x.at(3, i), i);
        }
        Check.due("all that it had, but no more", x.balance(3, 0), 0);
        Check.due("nothing came here", x.balance(3, 1), 100);
        Check.due("what came goes on", x.balance(3, 2), 0);
        Check.due("to here", x.balance(3, 3), 300);
    }

    private static void allFourteenRounds() {
        Counted x = Runs.fourNodes(4, 32);
        for (int node = 0; node < 4; node++) {
            Check.due("the last round", x.node(node, 1), 14);
            Check.due("all vertices", x.node(node, 5), 56);
            Check.due("the last leader that can be stood on", x.node(node, 4), 12);
            Check.due("records", x.node(node, 8), (node == 0 ? 2 : node == 1 ? 1 : 0) + 14 + 56 + 56);
        }
        Runs.tick(x, 0, 4);
        Check.due("no round more", x.node(0, 1), 14);
        Check.due("the timer stays", x.node(0, 2), 3);
        Check.due("a vertex of the last round", x.vertex(x.dag(0, 2, 14), 1), 14);
        Check.due("no vertex more", x.vertex(56, 0), -1);
        Check.due("504 messages", x.message(503, 0), 2);
        Check.due("no message more", x.message(504, 0), -1);
    }
}
