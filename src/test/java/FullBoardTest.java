/** THE BOARD is FULL when 800 or more lie there: what is done with 799, and what is not with 800. */
public final class FullBoardTest {
    private static final int LIMIT = Scenes.BOARD_LIMIT;
    private static final Scene ALMOST_FULL = Scenes.talkUntil(LIMIT - 1);
    private static final Scene FULL = Scenes.talkUntil(LIMIT);

    public static void main(String[] args) {
        sendTheLast();
        forgeTheLast();
        deliverTheLast();
        tickTheLast();
        pumpTheLast();
        pumpWithoutSending();
        restartOnAFullBoard();
        whatNeedsNoBoard();
        Check.end();
    }

    private static void messageIs(Counted x, int m, int kind, int sender, int vertex) {
        Check.due("kind of message " + m, x.message(m, 0), kind);
        Check.due("sender of message " + m, x.message(m, 1), sender);
        Check.due("vertex of message " + m, x.message(m, 2), vertex);
    }

    private static void boardHas(Counted x, int messages) {
        Check.yes("message " + (messages - 1) + " is there", x.message(messages - 1, 0) >= 0);
        Check.due("message " + messages + " is not", x.message(messages, 0), -1);
    }

    private static void sendTheLast() {
        Check.about("Promise 11: -1 (refused) if the board is full");
        Counted x = ALMOST_FULL.played();
        boardHas(x, LIMIT - 1);
        Check.due("send", x.send(1, 3), LIMIT - 1);
        messageIs(x, LIMIT - 1, 1, 3, 3);
        Check.due("send", x.send(1, 3), -1);
        boardHas(x, LIMIT);
    }

    private static void forgeTheLast() {
        Check.about("Promise 10: -1 (refused) if the board is full");
        Counted x = ALMOST_FULL.played();
        Check.due("forge", x.forge(1, 0, -1, -1), 56);
        messageIs(x, LIMIT - 1, 0, 3, 56);
        Check.due("forge", x.forge(1, 0, -1, -1), -1);
        Check.due("no vertex", x.vertex(57, 0), -1);
        boardHas(x, LIMIT);
    }

    /** Node 3, faulty, is in round 13; a vertex that it forged for round 14 is taken by nobody yet. */
    private static Counted withForged(int messages) {
        Counted x = new Counted();
        for (int node = 0; node < 4; node++) {
            x.tick(node);
        }
        Runs.sweep(x, 19, 0, 1, 2, 3);
        Check.due("ROUND of node 3", x.node(3, 1), 13);
        x.corrupt(3);
        Runs.sweep(x, 5, 0, 1, 2);
        Check.due("the last vertex", x.vertex(54, 1), 14);
        Check.due("forge", x.forge(14, 7, -1, -1), 55);
        Scenes.talk(x, messages);
        return x;
    }

    private static int numberOfForged(Counted x) {
        // All that lay there has been taken by node 0, so what was forged lies where it goes on.
        int m = x.node(0, 3);
        messageIs(x, m, 0, 3, 55);
        return m;
    }

    private static void deliverTheLast() {
        Check.about("Promise 3: false (refused) if the board is full");
        Counted x = withForged(LIMIT - 1);
        int forged = numberOfForged(x);
        Check.yes("deliver", x.deliver(forged, 1));
        messageIs(x, LIMIT - 1, 1, 1, 55);
        int records = x.node(0, 8);
        Check.no("deliver", x.deliver(forged, 0));
        Check.no("deliver of one that needs no answer", x.deliver(0, 0));
        Check.due("records", x.node(0, 8), records);
        boardHas(x, LIMIT);
    }

    /** Node 2 is faulty and silent before it could lead round 12, for which the others wait. */
    private static void withoutLeaderOfTwelve(Counted x) {
        for (int node = 0; node < 4; node++) {
            x.tick(node);
        }
        Runs.sweep(x, 17, 0, 1, 2, 3);
        x.corrupt(2);
        Runs.sweep(x, 4, 0, 1, 3);
        for (int node : new int[] {0, 1, 3}) {
            Check.due("ROUND", x.node(node, 1), 12);
            Check.due("all have round 12 but node 2", x.node(node, 5), 47);
        }
    }

    private static void tickTheLast() {
        Check.about("Promise 5: false (refused) if the board is full; what is under way goes on");
        Counted x = new Counted();
        withoutLeaderOfTwelve(x);
        Runs.tick(x, 0, 2);
        Runs.tick(x, 1, 2);
        Scenes.talk(x, LIMIT - 1);
        Check.yes("tick", x.tick(0));
        messageIs(x, LIMIT - 1, 0, 0, 47);
        Check.due("ROUND", x.node(0, 1), 13);
        Check.due("TIMER after what was under way", x.node(0, 2), 0);
        Check.no("tick", x.tick(1));
        Check.due("TIMER", x.node(1, 2), 2);
        Check.due("ROUND", x.node(1, 1), 12);
        Check.no("tick", x.tick(0));
        Check.due("TIMER", x.node(0, 2), 0);
        boardHas(x, LIMIT);
    }

    private static void pumpTheLast() {
        Check.about("Promise 4: until .. the board is full; THE BOARD: pump() takes none");
        Counted x = withForged(LIMIT - 1);
        int forged = numberOfForged(x);
        Check.due("pump: the echo fills the board", x.pump(0, 50), 1);
        messageIs(x, LIMIT - 1, 1, 0, 55);
        Check.due("MARK", x.node(0, 3), forged + 1);
        Check.due("pump", x.pump(0, 50), 0);
        Check.due("MARK", x.node(0, 3), forged + 1);
        int mark = x.node(1, 3);
        Check.due("pump of another", x.pump(1, 1), 0);
        Check.due("MARK of another", x.node(1, 3), mark);
        boardHas(x, LIMIT);
    }

    private static void pumpWithoutSending() {
        Check.about("Promise 4: until .. the board is full");
        Counted x = ALMOST_FULL.played();
        Check.due("MARK", x.node(0, 3), 504);
        Check.due("pump with 799", x.pump(0, 50), 50);
        Check.due("MARK", x.node(0, 3), 554);
        x.send(0, 0);
        Check.due("pump with 800", x.pump(0, 50), 0);
        Check.due("MARK", x.node(0, 3), 554);
    }

    private static void restartOnAFullBoard() {
        Check.about("Promise 7: a node comes up (and acts, unless the board is full)");
        Counted x = FULL.played();
        Check.yes("crash", x.crash(0));
        Check.yes("restart", x.restart(0));
        Check.due("it is up", x.node(0, 0), 1);
        Check.due("ROUND", x.node(0, 1), 14);
        Check.due("balance as at first", x.balance(0, 3), 100);
        Check.due("MARK", x.node(0, 3), 0);
        Check.due("pump", x.pump(0, 50), 0);
        Check.no("restart", x.restart(0));
        boardHas(x, LIMIT);
    }

    private static void whatNeedsNoBoard() {
        Check.about("THE BOARD: what is refused when it is full, and nothing else");
        Counted x = FULL.played();
        Check.due("submit", x.submit(0, 0, 1, 1), 0);
        Check.yes("cut", x.cut(0, 0));
        Check.due("submit that is cut", x.submit(0, 0, 1, 1), -2);
        Check.yes("restart", x.restart(0));
        Check.yes("crash", x.crash(2));
        Check.due("message", x.message(LIMIT - 1, 0), 2);
        Check.due("vertex", x.vertex(55, 1), 14);
        Check.due("node", x.node(1, 5), 56);
        Check.due("queue", x.node(0, 7), 1);
        Check.no("corrupt of another", x.corrupt(0));
    }
}
