/** The numbers that the document's terms name: the last that is taken, and the first that is not. */
public final class EdgesOfTermsTest {
    public static void main(String[] args) {
        fiveHundredAndTwelveCalls();
        fourNodes();
        fourAccounts();
        fortyTransfers();
        whatIsRefusedOrCutTakesNoNumber();
        ninetyVerticesByForging();
        theNinetiethByAdvancing();
        firstVertexNotMadeAtNinety();
        laterVertexNotMadeAtNinety();
        allElseGoesOnAtNinety();
        fourteenRounds();
        upToTwoTransfers();
        wellFormed();
        messagesLieForGood();
        Check.end();
    }

    private static void fiveHundredAndTwelveCalls() {
        Check.about("An object is used for at most 512 calls");
        Counted x = new Counted();
        for (int i = 0; i < 40; i++) {
            Check.due("submit", x.submit(0, 0, 1, 1), i);
        }
        Check.yes("tick", x.tick(0));
        while (x.callsLeft() > 2) {
            Check.yes("deliver", x.deliver(0, 1));
        }
        // SEND, the one ECHO that node 1 sent, and the ECHO that node 0 itself sends under way.
        Check.due("the 511th call", x.pump(0, 50), 3);
        Check.yes("the 512th call", x.tick(3));
        Check.due("calls left", x.callsLeft(), 0);
        Counted asked = new Counted();
        while (asked.callsLeft() > 1) {
            Check.due("node", asked.node(0, 0), 1);
        }
        Check.due("the 512th call", asked.submit(3, 3, 0, 1000), 0);
    }

    private static void fourNodes() {
        Check.about("NODES 0 .. 3");
        Counted x = new Counted();
        for (int node = 0; node < 4; node++) {
            Check.due("node", x.node(node, 0), 1);
            Check.yes("tick", x.tick(node));
            Check.due("author of its vertex", x.vertex(node, 0), node);
            Check.yes("deliver", x.deliver(node, node));
            Check.due("submit", x.submit(node, 0, 1, 1), node);
        }
        Check.noSuchNode("node(-1)", () -> x.node(-1, 0));
        Check.noSuchNode("node(4)", () -> x.node(4, 0));
    }

    private static void fourAccounts() {
        Check.about("ACCOUNTS 0 .. 3, in each node with a balance, 100 at first");
        Counted x = new Counted();
        for (int node = 0; node < 4; node++) {
            for (int account = 0; account < 4; account++) {
                Check.due("balance", x.balance(node, account), 100);
            }
            Check.due("balance(-1)", x.balance(node, -1), -1);
            Check.due("balance(4)", x.balance(node, 4), -1);
        }
    }

    private static void fortyTransfers() {
        Check.about("TRANSFERS are numbered 0, 1, .. as they are submitted, at most 40");
        Counted x = new Counted();
        for (int i = 0; i < 40; i++) {
            Check.due("submit", x.submit(i * 7 % 4, i % 4, (i + 1) % 4, i + 1), i);
        }
        for (int node = 0; node < 4; node++) {
            Check.due("submit of the 41st", x.submit(node, 0, 1, 1), -1);
            Check.due("queue", x.node(node, 7), 10);
            Check.due("records", x.node(node, 8), 10);
        }
        x.corrupt(3);
        Check.due("forge of the 40th transfer", x.forge(1, 0, 39, 39), 0);
        Check.due("forge of the 41st transfer", x.forge(1, 0, 40, -1), -1);
    }

    private static void whatIsRefusedOrCutTakesNoNumber() {
        Check.about("TRANSFERS are numbered 0, 1, .. as they are submitted, at most 40");
        Counted x = new Counted();
        for (int i = 0; i < 40; i++) {
            Check.due("submit of a wrong amount", x.submit(0, 0, 1, 1001), -1);
            x.cut(1, 0);
            Check.due("submit that is cut", x.submit(1, 0, 1, 1), -2);
            x.restart(1);
            Check.due("submit", x.submit(2, 0, 1, 1), i);
        }
        Check.due("submit of the 41st", x.submit(2, 0, 1, 1), -1);
        Check.due("queue of the one that was cut", x.node(1, 7), 0);
        Check.due("records of the one that was cut", x.node(1, 8), 0);
    }

    private static void ninetyVerticesByForging() {
        Check.about("VERTICES are numbered 0, 1, .. as they are made, at most 90");
        Counted x = new Counted();
        x.corrupt(3);
        for (int i = 0; i < 90; i++) {
            Check.due("forge", x.forge(14, 7, -1, -1), i);
        }
        Check.due("author of the 90th", x.vertex(89, 0), 3);
        Check.due("forge of the 91st", x.forge(14, 7, -1, -1), -1);
        Check.due("the 91st", x.vertex(90, 0), -1);
        Check.due("SEND of the 90th", x.message(89, 2), 89);
        Check.due("SEND of the 91st", x.message(90, 0), -1);
    }

    private static void theNinetiethByAdvancing() {
        Check.about("VERTICES are numbered 0, 1, .. as they are made, at most 90");
        Counted x = new Counted();
        x.corrupt(3);
        for (int i = 0; i < 89; i++) {
            x.forge(14, 7, -1, -1);
        }
        x.cut(0, 0);
        x.tick(0);
        Check.due("what a cut prevents takes no number", x.vertex(89, 0), -1);
        x.tick(1);
        Check.due("author of the 90th", x.vertex(89, 0), 1);
        Check.due("round of the 90th", x.vertex(89, 1), 1);
        Check.due("ROUND of its author", x.node(1, 1), 1);
        Check.due("TIMER of its author", x.node(1, 2), 0);
        Check.due("SEND of the 90th", x.message(89, 2), 89);
        x.tick(2);
        Check.due("the 91st", x.vertex(90, 0), -1);
        Check.due("ROUND of the one that came too late", x.node(2, 1), 0);
        Check.due("forge of the 91st", x.forge(14, 7, -1, -1), -1);
    }

    private static void firstVertexNotMadeAtNinety() {
        Check.about("It is not made if 90 vertices are there");
        Counted x = new Counted();
        Scenes.ninetyVertices(x);
        x.cut(0, 0);
        for (int timer : new int[] {1, 2, 3, 3}) {
            Check.yes("tick", x.tick(0));
            Check.due("TIMER is not set to 0", x.node(0, 2), timer);
        }
        Check.due("no record, no cut", x.node(0, 0), 1);
        Check.due("ROUND", x.node(0, 1), 0);
        Check.due("QUEUE", x.node(0, 7), 1);
        Check.due("records", x.node(0, 8), 1);
        Check.due("no vertex", x.vertex(90, 0), -1);
        Check.due("no message", x.message(90, 0), -1);
    }

    /** Nodes 0, 1 and 2 have made a vertex, node 3 has forged the rest; then all is taken. */
    private static Counted roundOneWithForged(int forged) {
        Counted x = new Counted();
        for (int node = 0; node < 3; node++) {
            x.submit(node, 0, 1, 1);
            x.tick(node);
            x.submit(node, 1, 2, 1);
        }
        x.corrupt(3);
        for (int i = 0; i < forged; i++) {
            x.forge(14, 7, -1, -1);
        }
        Runs.sweep(x, 8, 0, 1, 2);
        return x;
    }

    private static void laterVertexNotMadeAtNinety() {
        Check.about("It is not made if 90 vertices are there");
        Counted eightyNine = roundOneWithForged(86);
        int inRoundTwo = 0;
        for (int node = 0; node < 3; node++) {
            inRoundTwo += eightyNine.node(node, 1) == 2 ? 1 : 0;
        }
        Check.due("how many make the 90th", inRoundTwo, 1);
        Check.due("round of the 90th", eightyNine.vertex(89, 1), 2);
        Counted ninety = roundOneWithForged(87);
        for (int node = 0; node < 3; node++) {
            Check.due("all of round 1 are in the DAG", ninety.node(node, 5), 3);
            Check.due("ROUND", ninety.node(node, 1), 1);
            Check.due("QUEUE", ninety.node(node, 7), 1);
        }
        Check.due("no vertex", ninety.vertex(90, 0), -1);
    }

    private static void allElseGoesOnAtNinety() {
        Check.about("VERTICES .. at most 90");
        Counted x = roundOneWithForged(87);
        Check.due("echoes, readies, two transfers, a vertex: records", x.node(0, 8), 2 + 1 + 4 + 4);
        Check.due("submit", x.submit(0, 0, 1, 1), 6);
        Check.yes("tick", x.tick(0));
        Check.due("TIMER", x.node(0, 2), 1);
        Check.yes("deliver", x.deliver(0, 0));
        Check.yes("send", x.send(0, 89) > 90);
    }

    private static void fourteenRounds() {
        Check.about("a ROUND 1 .. 14; ROUND is 1 .. 13");
        Counted x = new Counted();
        Scenes.fourteenRounds(x);
        for (int node = 0; node < 4; node++) {
            Check.due("ROUND", x.node(node, 1), 14);
            int last = x.dag(node, node, 14);
            Check.due("round of its last vertex", x.vertex(last, 1), 14);
            Check.yes("parents of its last vertex", Integer.bitCount(x.vertex(last, 2)) >= 3);
            Check.due("all are in the DAG", x.node(node, 5), 56);
            Runs.tick(x, node, 4);
            Check.due("ROUND after ticks", x.node(node, 1), 14);
            Check.due("TIMER after ticks", x.node(node, 2), 3);
        }
        Check.due("no vertex of round 15", x.vertex(56, 0), -1);
        Check.due("the last message", x.message(503, 0), 2);
        Check.due("no message more", x.message(504, 0), -1);
    }

    private static void upToTwoTransfers() {
        Check.about("up to two transfers; transfers the first two of QUEUE");
        Counted x = new Counted();
        for (int node : new int[] {0, 1, 0, 2, 1, 0}) {
            x.submit(node, 0, 1, 1);
        }
        int[][] due = {{0, 2, 1}, {1, 4, 0}, {3, -1, 0}, {-1, -1, 0}};
        for (int node = 0; node < 4; node++) {
            x.tick(node);
            Check.due("first transfer of node " + node, x.vertex(node, 3), due[node][0]);
            Check.due("second transfer of node " + node, x.vertex(node, 4), due[node][1]);
            Check.due("QUEUE of node " + node, x.node(node, 7), due[node][2]);
        }
        Check.due("submit", x.submit(3, 0, 1, 1), 6);
        Runs.sweep(x, 5, 0, 1, 2, 3);
        int[] second = {5, -1, -1, 6};
        for (int node = 0; node < 4; node++) {
            int v = x.dag(0, node, 2);
            Check.due("the rest in the second vertex of node " + node, x.vertex(v, 3), second[node]);
            Check.due("and no more in that of node " + node, x.vertex(v, 4), -1);
            Check.due("QUEUE of node " + node, x.node(node, 7), 0);
        }
    }

    private static void wellFormed() {
        Check.about("WELL FORMED if it is of round 1 without parents, or of a later one with at least three");
        for (int round = 1; round <= 14; round++) {
            for (int parents = 0; parents <= 15; parents++) {
                Counted x = new Counted();
                x.corrupt(3);
                x.forge(round, parents, -1, -1);
                Check.yes("deliver", x.deliver(0, 1));
                boolean good = round == 1 ? parents == 0 : Integer.bitCount(parents) >= 3;
                String vertex = "of round " + round + " with parents " + parents;
                Check.due("echo of one " + vertex, x.message(1, 0), good ? 1 : -1);
                Check.due("records for one " + vertex, x.node(1, 8), good ? 1 : 0);
            }
        }
    }

    private static void messagesLieForGood() {
        Check.about("messages lie on it for good, numbered 0, 1, .. as they are sent");
        Counted x = new Counted();
        x.tick(2);
        x.corrupt(0);
        Check.due("send", x.send(2, 0), 1);
        x.deliver(0, 1);
        Check.due("forge", x.forge(1, 0, -1, -1), 1);
        Runs.sweep(x, 3, 1, 2, 3);
        x.crash(2);
        int[][] due = {{0, 2, 0}, {2, 0, 0}, {1, 1, 0}, {0, 0, 1}};
        for (int m = 0; m < due.length; m++) {
            for (int what = 0; what <= 2; what++) {
                Check.due("message(" + m + ", " + what + ")", x.message(m, what), due[m][what]);
            }
            Check.yes("it can be taken again", x.deliver(m, 1));
        }
    }
}
