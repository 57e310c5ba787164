/** The full board, and ninety vertices. */
public final class LimitsTest {
    private static final int LIMIT = 800;

    public static void main(String[] args) {
        ninetyVertices();
        fullBoard();
        pumpStopsWhenTheBoardIsFull();
        Check.end();
    }

    private static void ninetyVertices() {
        DagLedger x = new DagLedger();
        x.submit(0, 0, 1, 1);
        x.corrupt(3);
        for (int i = 0; i < 89; i++) {
            Check.due("forge", x.forge(14, 7, -1, -1), i);
        }
        x.tick(1);
        Check.due("the ninetieth", x.vertex(89, 0), 1);
        Check.due("forge beyond", x.forge(14, 7, -1, -1), -1);
        x.cut(0, 0);
        Check.yes("tick", x.tick(0));
        Check.due("no vertex", x.vertex(90, 0), -1);
        Check.due("no round", x.node(0, 1), 0);
        Check.due("the timer stays", x.node(0, 2), 1);
        Check.due("nothing was to be written", x.node(0, 0), 1);
        Check.due("the queue stays", x.node(0, 7), 1);
        Check.due("no message", x.message(90, 0), -1);
        Check.due("send goes on", x.send(0, 89), 90);
    }

    /** A board that node 3, faulty since its round 13, can fill: nodes 0, 1, 2 have taken all of it. */
    private static DagLedger manyMessages() {
        DagLedger x = new DagLedger();
        for (int node = 0; node < 4; node++) {
            x.tick(node);
        }
        for (int i = 0; i < 30 && x.node(3, 1) < 13; i++) {
            Runs.sweep(x, 1, 0, 1, 2, 3);
        }
        Check.due("node 3 is in round 13", x.node(3, 1), 13);
        x.corrupt(3);
        Runs.sweep(x, 6, 0, 1, 2);
        Check.due("all is taken", x.pump(0, 50) + x.pump(1, 50) + x.pump(2, 50), 0);
        return x;
    }

    private static void sendUntil(DagLedger x, int messages) {
        int sent = 0;
        for (int i = 0; i < LIMIT && sent < messages - 1; i++) {
            sent = x.send(2, 0);
        }
        Check.due("messages on the board", sent + 1, messages);
    }

    private static void fullBoard() {
        DagLedger x = manyMessages();
        int mark = x.node(0, 3);
        sendUntil(x, LIMIT - 1);
        Check.yes("deliver below the limit", x.deliver(0, 0));
        Check.yes("tick below the limit", x.tick(0));
        Check.due("pump below the limit", x.pump(0, 3), 3);
        Check.due("the last one", x.send(2, 0), LIMIT - 1);
        Check.due("send", x.send(2, 0), -1);
        Check.due("forge", x.forge(14, 7, -1, -1), -1);
        Check.no("deliver", x.deliver(0, 0));
        int timer = x.node(0, 2);
        Check.no("tick", x.tick(0));
        Check.due("the timer stays", x.node(0, 2), timer);
        Check.due("pump", x.pump(0, 3), 0);
        Check.due("pump of too many", x.pump(0, 51), -1);
        Check.due("the mark stays", x.node(0, 3), mark + 3);
        Check.yes("crash", x.crash(0));
        Check.notUp("pump of one that is down", () -> x.pump(0, 1));
        Check.yes("restart", x.restart(0));
        Check.due("it is up", x.node(0, 0), 1);
        Check.due("submit", x.submit(0, 0, 1, 1), 0);
        Check.due("nothing was sent", x.message(LIMIT, 0), -1);
    }

    private static void pumpStopsWhenTheBoardIsFull() {
        DagLedger x = manyMessages();
        int mark = x.node(0, 3);
        Check.yes("forge", x.forge(14, 7, -1, -1) > 0);
        sendUntil(x, LIMIT - 1);
        Check.due("the echo fills the board", x.pump(0, 50), 1);
        Check.due("the mark went along", x.node(0, 3), mark + 1);
        Check.due("the echo", x.message(LIMIT - 1, 0), 1);
        Check.due("no more", x.pump(0, 50), 0);
    }
}
