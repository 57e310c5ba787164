/**
 * Leaders that too few stand on, and that are committed before a later one if it reaches them. Node 1, the leader of
 * round 2, is faulty; its vertex of that round comes so late that node 0's next vertex alone stands on it. Transfers 0
 * and 1 are in node 0's first vertex, 2 in its second, 3 in that leader: it comes before 2 if the leader is emitted by
 * itself, and behind it if it is merely one of those under a later leader.
 */
public final class ChainTest {
    private static final int[] HONEST = {0, 2, 3};

    private final Stage s = new Stage(HONEST);
    /** The leader of round 2. */
    private final int two;
    /** The vertices of round 3, by author; that of node 0 stands on the leader of round 2. */
    private final int[] three;

    private ChainTest() {
        for (int i = 0; i < 3; i++) {
            s.submit(0, 0, 1, 1);
        }
        s.submit(1, 0, 1, 8);
        s.corrupt(1);
        for (int node : HONEST) {
            s.tick(node, 1);
        }
        s.sweep(6);
        s.tick(2, 3);
        s.tick(3, 3);
        two = s.forge(2, 13, 3);
        s.spread(two, 0);
        three = new int[] {s.madeLast(0), s.forge(3, 13, -1), s.madeLast(2), s.madeLast(3)};
        Check.due("node 0 stands on the leader of round 2", s.x.vertex(three[0], 2), 15);
        Check.due("node 2 does not", s.x.vertex(three[2], 2), 13);
        Check.due("node 3 does not", s.x.vertex(three[3], 2), 13);
    }

    public static void main(String[] args) {
        Check.about("COMMIT: that of w - 4, if it is reached from the last one that was found");
        new ChainTest().reachedFromAnEarlierOneOnly();
        new ChainTest().threeAtOnce();
        Check.about("COMMIT: before it, if it is reached from it by parents, that of w - 2");
        new ChainTest().reachedWithoutTheNextOfALeadersAuthor();
        new ChainTest().reachedPastTheNextOfTheEarlierLeadersAuthor();
        Check.end();
    }

    private void spreadAll(int[] vertices, int... to) {
        for (int v : vertices) {
            s.spread(v, to);
        }
    }

    private void orderIs(int node, int... due) {
        Check.due("how many in node " + node, s.x.node(node, 6), due.length);
        for (int i = 0; i < due.length; i++) {
            Check.due("at(" + node + ", " + i + ")", s.x.at(node, i), due[i]);
        }
    }

    /** Nodes 0 and 3 go on to round 5 by the timer: with what node 1 forges, but without the leader of round 4. */
    private void goOnWithoutFour(int parentsOfForged) {
        spreadAll(new int[] {s.forge(4, parentsOfForged, -1), s.madeLast(3), s.madeLast(0)}, HONEST);
        s.tick(0, 3);
        s.tick(3, 3);
        s.sweep(12);
        Check.due("node 0 does not stand on the leader of round 4", s.x.vertex(s.x.dag(0, 0, 5), 2), 11);
        Check.due("node 2 does", s.x.vertex(s.x.dag(0, 2, 5), 2), 15);
        Check.due("node 3 does not", s.x.vertex(s.x.dag(0, 3, 5), 2), 11);
        Check.yes("round 6 is committed", s.x.node(0, 4) >= 6);
    }

    /** The leader of round 6 reaches those of rounds 4 and 2, but that of round 4 does not reach that of round 2. */
    private void reachedFromAnEarlierOneOnly() {
        spreadAll(new int[] {three[1], three[2], three[3]}, HONEST);
        Check.due("the leader of round 4 does not stand on node 0's", s.x.vertex(s.madeLast(2), 2), 14);
        s.spread(two, 2, 3);
        s.spread(three[0], HONEST);
        goOnWithoutFour(14);
        for (int node : HONEST) {
            orderIs(node, 0, 1, 2, 3);
        }
    }

    /** That of round 6 reaches that of round 4, and that in turn that of round 2; node 3's beside it does not. */
    private void threeAtOnce() {
        spreadAll(new int[] {three[1], three[2], three[3]}, 3);
        Check.due("node 3's vertex of round 4", s.x.vertex(s.madeLast(3), 2), 14);
        s.spread(two, 2, 3);
        spreadAll(new int[] {three[0], three[2], three[3]}, 0, 2);
        Check.due("the leader of round 4 stands on node 0's", s.x.vertex(s.madeLast(2), 2), 13);
        s.spread(three[0], 3);
        s.spread(three[1], 0, 2);
        goOnWithoutFour(14);
        for (int node : HONEST) {
            orderIs(node, 0, 1, 3, 2);
        }
    }

    private void reachedWithoutTheNextOfALeadersAuthor() {
        s.spread(two, 2, 3);
        spreadAll(new int[] {three[0], three[2], three[3]}, HONEST);
        spreadAll(new int[] {s.madeLast(0), s.madeLast(2), s.madeLast(3)}, HONEST);
        for (int node : HONEST) {
            Check.due("ROUND", s.x.node(node, 1), 5);
        }
        Check.due("LAST", s.x.node(0, 4), 0);
        spreadAll(new int[] {s.madeLast(0), s.madeLast(3)}, 0);
        Check.due("node 2's vertex of round 5 is not there", s.x.dag(0, 2, 5), -1);
        Check.due("LAST", s.x.node(0, 4), 4);
        orderIs(0, 0, 1, 3, 2);
    }

    /** Node 1's vertex of round 3 does not stand on its own of round 2, but node 0's does. */
    private void reachedPastTheNextOfTheEarlierLeadersAuthor() {
        s.spread(two, 2, 3);
        spreadAll(new int[] {three[0], three[1], three[2]}, HONEST);
        Check.due("the leader of round 4 stands on both", s.x.vertex(s.madeLast(2), 2), 7);
        s.spread(three[3], HONEST);
        s.sweep(8);
        Check.yes("round 4 is committed", s.x.node(0, 4) >= 4);
        for (int node : HONEST) {
            orderIs(node, 0, 1, 3, 2);
        }
    }
}
