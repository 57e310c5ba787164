/** When INSERT, COMMIT and ADVANCE apply, and when they just do not. */
public final class EdgesOfRulesTest {
    private static final int ROUND = 1;
    private static final int TIMER = 2;
    private static final int LAST = 4;
    private static final int IN_DAG = 5;

    /** All but node 1. */
    private static final int[] OTHERS = {0, 2, 3};

    public static void main(String[] args) {
        insertOnAllParents();
        insertOnFourParents();
        insertAllBeforeAdvance();
        firstVertexNeedsATick();
        ownVertexMustBeThere();
        threeOfARoundMustBeThere();
        oddRoundNeedsNoLeader();
        evenRoundNeedsLeaderOrTimer();
        timerDoesNotStandForVertices();
        timerRunOutBefore();
        leaderStandsForTimer();
        leadersOfEvenRounds();
        lastOfFourteenRounds();
        twoMustStandOnTheLeader();
        oddRoundsHaveNoLeader();
        leaderMustBeThere();
        balanceAtLeastTheAmount();
        positionOnce();
        Check.end();
    }

    private static Stage allTicked() {
        Stage s = new Stage(0, 1, 2, 3);
        for (int node = 0; node < 4; node++) {
            s.tick(node, 1);
        }
        return s;
    }

    private static void insertOnAllParents() {
        Check.about("INSERT: whose parents' vertices of the round before are all in the DAG");
        Stage s = allTicked();
        for (int v = 0; v < 3; v++) {
            s.spread(v, 0, 1, 2);
        }
        Check.due("vertex 4 stands on 0, 1, 2", s.x.vertex(4, 2), 7);
        s.spread(4, 3);
        Check.due("it waits for three", s.x.node(3, IN_DAG), 0);
        s.deliverReadies(1, 3);
        s.deliverReadies(2, 3);
        Check.due("it waits for one", s.x.node(3, IN_DAG), 2);
        s.spread(3, 3);
        Check.due("one that is no parent does not help", s.x.node(3, IN_DAG), 3);
        Check.due("dag", s.x.dag(3, 0, 2), -1);
        s.deliverReadies(0, 3);
        Check.due("it came with its last parent", s.x.node(3, IN_DAG), 5);
        Check.due("dag", s.x.dag(3, s.x.vertex(4, 0), 2), 4);
    }

    private static void insertOnFourParents() {
        Check.about("INSERT: whose parents' vertices of the round before are all in the DAG");
        Stage s = allTicked();
        s.spread(1, 0);
        s.spread(2, 0);
        s.spread(3, 0);
        s.spread(0, 0);
        Check.due("vertex 4 stands on all", s.x.vertex(4, 2), 15);
        s.spread(4, 3);
        s.deliverReadies(0, 3);
        s.deliverReadies(1, 3);
        s.deliverReadies(2, 3);
        Check.due("three of four are there", s.x.node(3, IN_DAG), 3);
        s.deliverReadies(3, 3);
        Check.due("all are there", s.x.node(3, IN_DAG), 5);
    }

    private static void insertAllBeforeAdvance() {
        Check.about("it acts by these RULES, as long as one applies, the first that does first");
        Stage s = allTicked();
        s.spread(0, 0, 1);
        s.spread(1, 0, 1, 2, 3);
        s.spread(2, 0, 1, 2, 3);
        s.spread(3, 2, 3);
        Check.due("node 0 stands on 0, 1, 2", s.x.vertex(s.madeLast(0), 2), 7);
        Check.due("node 2 stands on 1, 2, 3", s.x.vertex(s.madeLast(2), 2), 14);
        Check.due("node 3 stands on 1, 2, 3", s.x.vertex(s.madeLast(3), 2), 14);
        for (int v = 4; v < 8; v++) {
            s.spread(v, 0);
        }
        Check.due("two of round 2 wait for vertex 3", s.x.node(0, IN_DAG), 5);
        Check.due("ROUND with two of round 2", s.x.node(0, ROUND), 2);
        s.deliverReadies(3, 0);
        Check.due("both came with it", s.x.node(0, IN_DAG), 8);
        Check.due("ROUND with four of round 2", s.x.node(0, ROUND), 3);
        Check.due("it went on when both were there", s.x.vertex(s.madeLast(0), 2), 15);
    }

    private static void firstVertexNeedsATick() {
        Check.about("ADVANCE: if ROUND is 0 and TIMER is not 0");
        Stage s = new Stage(0, 1, 2, 3);
        for (int node = 0; node < 3; node++) {
            s.tick(node, 1);
        }
        s.sweep(4);
        Check.due("TIMER is 0", s.x.node(3, ROUND), 0);
        Check.yes("though it has three of round 1", s.x.node(3, IN_DAG) >= 3);
        s.tick(3, 1);
        Check.due("TIMER was not 0", s.x.node(3, ROUND), 1);
        Check.due("TIMER is 0 again", s.x.node(3, TIMER), 0);
        int first = s.madeLast(3);
        Check.due("its first vertex is of round 1", s.x.vertex(first, 1), 1);
        Check.due("its first vertex stands on none", s.x.vertex(first, 2), 0);
    }

    private static void ownVertexMustBeThere() {
        Check.about("ADVANCE: its own vertex of ROUND .. in the DAG");
        Stage s = allTicked();
        for (int v = 1; v < 4; v++) {
            s.spread(v, 0);
        }
        Check.due("three others", s.x.node(0, IN_DAG), 3);
        Check.due("three others do not do", s.x.node(0, ROUND), 1);
        s.spread(0, 0);
        Check.due("its own does", s.x.node(0, ROUND), 2);
        Check.due("parents", s.x.vertex(4, 2), 15);
    }

    private static void threeOfARoundMustBeThere() {
        Check.about("ADVANCE: at least three of ROUND are in the DAG");
        for (int node = 0; node < 4; node++) {
            Stage s = allTicked();
            int next = (node + 1) % 4;
            int third = (node + 2) % 4;
            s.spread(node, node);
            Check.due("one", s.x.node(node, ROUND), 1);
            s.spread(next, node);
            Check.due("two", s.x.node(node, ROUND), 1);
            s.spread(third, node);
            Check.due("three", s.x.node(node, ROUND), 2);
            Check.due("parents", s.x.vertex(4, 2), 1 << node | 1 << next | 1 << third);
        }
    }

    private static void oddRoundNeedsNoLeader() {
        Check.about("ADVANCE: ROUND is odd");
        // Of round 1, (1 / 2) % 4 would be node 0: the others go on without it.
        Stage s = new Stage(1, 2, 3);
        s.corrupt(0);
        for (int node = 1; node < 4; node++) {
            s.tick(node, 1);
        }
        s.sweep(3);
        for (int node = 1; node < 4; node++) {
            Check.yes("ROUND", s.x.node(node, ROUND) >= 2);
        }
        Check.due("parents", s.x.vertex(3, 2), 14);
    }

    /** Nodes 0, 2, 3 have all of round 2 but its leader, node 1, which is faulty. */
    private static Stage roundTwoWithoutLeader() {
        Stage s = new Stage(OTHERS);
        s.corrupt(1);
        for (int node : OTHERS) {
            s.tick(node, 1);
        }
        s.sweep(6);
        for (int node : OTHERS) {
            Check.due("ROUND", s.x.node(node, ROUND), 2);
            Check.due("in the DAG", s.x.node(node, IN_DAG), 6);
        }
        return s;
    }

    private static void evenRoundNeedsLeaderOrTimer() {
        Check.about("ADVANCE: TIMER is at least 3");
        Stage s = roundTwoWithoutLeader();
        for (int node : OTHERS) {
            s.tick(node, 1);
            Check.due("ROUND with TIMER 1", s.x.node(node, ROUND), 2);
            s.tick(node, 1);
            Check.due("ROUND with TIMER 2", s.x.node(node, ROUND), 2);
            Check.due("TIMER", s.x.node(node, TIMER), 2);
            s.tick(node, 1);
            Check.due("ROUND with TIMER 3", s.x.node(node, ROUND), 3);
            Check.due("TIMER", s.x.node(node, TIMER), 0);
            Check.due("parents", s.x.vertex(s.madeLast(node), 2), 13);
        }
    }

    private static void timerDoesNotStandForVertices() {
        Check.about("ADVANCE: its own vertex of ROUND and at least three .., and one of these holds");
        Stage s = allTicked();
        s.spread(0, 0);
        s.spread(1, 0);
        s.tick(0, 4);
        Check.due("two and a timer", s.x.node(0, ROUND), 1);
        Check.due("TIMER", s.x.node(0, TIMER), 3);
        Stage t = allTicked();
        for (int v = 1; v < 4; v++) {
            t.spread(v, 0);
        }
        t.tick(0, 4);
        Check.due("three others and a timer", t.x.node(0, ROUND), 1);
    }

    private static void timerRunOutBefore() {
        Check.about("ADVANCE: TIMER is at least 3");
        Stage s = new Stage(OTHERS);
        s.corrupt(1);
        for (int node : OTHERS) {
            s.tick(node, 1);
        }
        for (int v = 0; v < 3; v++) {
            s.spread(v, OTHERS);
        }
        Check.due("ROUND", s.x.node(0, ROUND), 2);
        s.tick(0, 5);
        Check.due("TIMER", s.x.node(0, TIMER), 3);
        Check.due("ROUND before round 2 is there", s.x.node(0, ROUND), 2);
        s.spread(3, 0);
        s.spread(4, 0);
        Check.due("ROUND with two of round 2", s.x.node(0, ROUND), 2);
        s.spread(5, 0);
        Check.due("ROUND with three of round 2", s.x.node(0, ROUND), 3);
        Check.due("TIMER", s.x.node(0, TIMER), 0);
    }

    private static void leaderStandsForTimer() {
        Check.about("ADVANCE: the leader of ROUND is in the DAG");
        Stage s = roundTwoWithoutLeader();
        int leader = s.forge(2, 13, -1);
        s.spread(leader);
        Check.due("before it is in the DAG", s.x.node(0, ROUND), 2);
        s.deliverReadies(leader, 0);
        Check.due("it is in the DAG", s.x.dag(0, 1, 2), leader);
        Check.due("ROUND with TIMER 0", s.x.node(0, ROUND), 3);
        Check.due("ROUND of one that has it not", s.x.node(2, ROUND), 2);
    }

    private static void leadersOfEvenRounds() {
        Check.about("the LEADER of an even round w is the vertex of round w and author (w / 2) % 4");
        // Where the others wait if a node is silent, what LAST is then, and what it is at the end.
        int[][] waits = {{8}, {2, 10}, {4, 12}, {6}};
        int[][] last = {{6}, {0, 8}, {2, 10}, {4}};
        int[] lastOfAll = {12, 12, 10, 12};
        for (int silent = 0; silent < 4; silent++) {
            int[] others = {(silent + 1) % 4, (silent + 2) % 4, (silent + 3) % 4};
            Counted x = new Counted();
            x.corrupt(silent);
            for (int node : others) {
                x.tick(node);
            }
            for (int i = 0; i < waits[silent].length; i++) {
                Runs.sweep(x, 26, others);
                for (int node : others) {
                    Check.due("ROUND without node " + silent, x.node(node, ROUND), waits[silent][i]);
                    Check.due("LAST without node " + silent, x.node(node, LAST), last[silent][i]);
                    Runs.tick(x, node, 3);
                }
            }
            Runs.sweep(x, 26, others);
            for (int node : others) {
                Check.due("ROUND at the end", x.node(node, ROUND), 14);
                Check.due("LAST at the end", x.node(node, LAST), lastOfAll[silent]);
            }
        }
    }

    private static void lastOfFourteenRounds() {
        Check.about("LAST is the greatest round whose leader was committed (0 at first)");
        Counted x = new Counted();
        Check.due("LAST at first", x.node(0, LAST), 0);
        int last = 0;
        for (int node = 0; node < 4; node++) {
            x.tick(node);
        }
        for (int i = 0; i < 23; i++) {
            Runs.sweep(x, 1, 0, 1, 2, 3);
            int now = x.node(0, LAST);
            Check.yes("LAST " + now + " after " + last, now % 2 == 0 && now >= last);
            last = now;
        }
        Check.due("nothing can stand on round 14", last, 12);
    }

    /** Node 1, the faulty leader of round 2, forges a vertex when all but some, a set of nodes, have gone on. */
    private static Stage leaderWithSupport(int standing) {
        Stage s = roundTwoWithoutLeader();
        for (int node : OTHERS) {
            if ((standing >> node & 1) == 0) {
                s.tick(node, 3);
            }
        }
        int leader = s.forge(2, 13, -1);
        s.spread(leader, OTHERS);
        for (int node : OTHERS) {
            s.spread(s.madeLast(node), OTHERS);
        }
        Check.due("the leader is there", s.x.dag(0, 1, 2), leader);
        for (int node : OTHERS) {
            int v = s.x.dag(0, node, 3);
            Check.due("parents in round 3", s.x.vertex(v, 2), (standing >> node & 1) == 0 ? 13 : 15);
        }
        return s;
    }

    private static void twoMustStandOnTheLeader() {
        Check.about("COMMIT: at least two vertices of round w + 1 in the DAG have that author as a parent");
        for (int standing : new int[] {0, 1, 4, 8, 5, 9, 12, 13}) {
            Stage s = leaderWithSupport(standing);
            for (int node : OTHERS) {
                Check.due("LAST if " + standing + " stand on it", s.x.node(node, LAST),
                    Integer.bitCount(standing) >= 2 ? 2 : 0);
            }
        }
    }

    private static void oddRoundsHaveNoLeader() {
        Check.about("the LEADER of an even round w");
        Stage s = roundTwoWithoutLeader();
        for (int node : OTHERS) {
            s.tick(node, 3);
        }
        // Round 2 is without its leader, but node 1 comes back in round 3, before all go on.
        int late = s.forge(3, 13, -1);
        s.spread(late, OTHERS);
        for (int node : OTHERS) {
            s.spread(s.madeLast(node), OTHERS);
        }
        for (int node : OTHERS) {
            s.spread(s.madeLast(node), OTHERS);
        }
        for (int node : OTHERS) {
            Check.due("in the DAG", s.x.node(node, IN_DAG), 13);
            for (int author : OTHERS) {
                int parents = s.x.vertex(s.x.dag(node, author, 4), 2);
                Check.due("node " + author + " stands on what came late", parents >> 1 & 1, 1);
            }
            Check.due("LAST", s.x.node(node, LAST), 0);
        }
    }

    private static void leaderMustBeThere() {
        Check.about("COMMIT: an even w greater than LAST whose leader is there");
        Stage s = roundTwoWithoutLeader();
        for (int node : OTHERS) {
            s.tick(node, 3);
        }
        for (int node : OTHERS) {
            s.spread(s.madeLast(node), OTHERS);
        }
        Check.due("in the DAG", s.x.node(0, IN_DAG), 9);
        Check.due("LAST", s.x.node(0, LAST), 0);
    }

    private static Counted committed(int[][] transfers) {
        Counted x = new Counted();
        for (int[] t : transfers) {
            x.submit(0, t[0], t[1], t[2]);
        }
        for (int node = 0; node < 4; node++) {
            x.tick(node);
        }
        Runs.sweep(x, 10, 0, 1, 2, 3);
        Check.due("all have a POSITION", x.node(3, 6), transfers.length);
        return x;
    }

    private static void balanceAtLeastTheAmount() {
        Check.about("DONE: if the balance of the account from which is at least the amount, it is moved");
        Counted all = committed(new int[][] {{0, 1, 100}});
        Check.due("from, all of it", all.balance(3, 0), 0);
        Check.due("to, all of it", all.balance(3, 1), 200);
        Counted more = committed(new int[][] {{0, 1, 101}});
        Check.due("from, one too many", more.balance(3, 0), 100);
        Check.due("to, one too many", more.balance(3, 1), 100);
        Check.due("it has a POSITION all the same", more.at(3, 0), 0);
        Counted less = committed(new int[][] {{0, 1, 99}});
        Check.due("from, all but one", less.balance(3, 0), 1);
        Counted none = committed(new int[][] {{0, 1, 100}, {0, 1, 1}});
        Check.due("from, of nothing", none.balance(3, 0), 0);
        Check.due("to, of nothing", none.balance(3, 1), 200);
        Counted most = committed(new int[][] {{0, 1, 100}, {1, 2, 200}, {2, 3, 300}, {3, 0, 1000}});
        Check.due("everything is in one account", most.balance(3, 3), 400);
        Check.due("which cannot give 1000", most.balance(3, 0), 0);
        Counted back = committed(new int[][] {{0, 1, 100}, {1, 2, 200}, {2, 3, 300}, {3, 0, 400}});
        Check.due("but 400", back.balance(3, 0), 400);
    }

    private static void positionOnce() {
        Check.about("EMIT: its transfers in order, but not those that have a POSITION already");
        Counted x = new Counted();
        x.submit(0, 0, 1, 10);
        x.submit(0, 1, 2, 10);
        x.corrupt(3);
        x.forge(1, 0, 0, 1);
        for (int node = 0; node < 3; node++) {
            x.tick(node);
        }
        Runs.sweep(x, 12, 0, 1, 2);
        for (int node = 0; node < 3; node++) {
            Check.due("what was forged is in the DAG", x.dag(node, 3, 1), 0);
            Check.yes("a leader is committed", x.node(node, LAST) >= 4);
            Check.due("positions", x.node(node, 6), 2);
            Check.due("at 0", x.at(node, 0), 0);
            Check.due("at 1", x.at(node, 1), 1);
            Check.due("at 2", x.at(node, 2), -1);
            Check.due("balance 0: 10 went once", x.balance(node, 0), 90);
            Check.due("balance 1: 10 came, 10 went", x.balance(node, 1), 100);
            Check.due("balance 2: 10 came once", x.balance(node, 2), 110);
        }
    }
}
