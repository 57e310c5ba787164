/** What a node loses and keeps when it goes DOWN, at which record a CUT comes, and what a FAULTY node is. */
public final class EdgesOfFallingTest {
    private static final int STATE = 0;
    private static final int RECORDS = 8;

    public static void main(String[] args) {
        downLosesAllButTheDisk();
        upAsAtFirst();
        echoesAreLost();
        readiesAreLost();
        whatWasDeliveredIsLost();
        theDiskIsNeverLost();
        cutAtEachRecord();
        cutBehindEachRecord();
        cutNeedsARecord();
        cutEndsAPump();
        cutCountsFromNowOn();
        cutInPlaceOfAnother();
        cutIsOverWhenDown();
        cutFarOff();
        whatWasNotWrittenIsNotPromised();
        faultyWhileUp();
        faultyWhileDown();
        faultyActsNoMore();
        forgedLiesOnTheBoardAlone();
        Check.end();
    }

    private static void nodeIs(String when, Counted x, int node, int... due) {
        for (int what = 0; what < due.length; what++) {
            Check.due(when + ": node(" + node + ", " + what + ")", x.node(node, what), due[what]);
        }
    }

    private static void hasNothingBesides(Counted x, int node, int balance) {
        for (int i = 0; i < 4; i++) {
            Check.due("balance", x.balance(node, i), balance);
            for (int round = 1; round <= 14; round++) {
                Check.due("dag", x.dag(node, i, round), -1);
            }
        }
        for (int position = 0; position < 4; position++) {
            Check.due("at", x.at(node, position), -1);
        }
    }

    /** Node 1 has something of everything: ROUND 4, TIMER 1, LAST 2, three done, one in its QUEUE. */
    private static Counted fullOfThings() {
        Counted x = new Counted();
        x.submit(0, 0, 1, 30);
        x.submit(1, 1, 2, 120);
        x.submit(1, 2, 3, 5);
        for (int node = 0; node < 4; node++) {
            x.tick(node);
        }
        Runs.sweep(x, 6, 0, 1, 2, 3);
        x.submit(1, 3, 0, 1);
        x.tick(1);
        return x;
    }

    private static void downLosesAllButTheDisk() {
        Check.about("What it has besides is lost when it goes DOWN; (Of what is lost while it is down: 0.)");
        Counted x = fullOfThings();
        int records = x.node(1, RECORDS);
        int others = x.node(2, 5);
        nodeIs("up", x, 1, 1, 4, 1);
        Check.yes("MARK", x.node(1, 3) > 0);
        Check.due("LAST", x.node(1, 4), 2);
        Check.yes("in the DAG", x.node(1, 5) > 8);
        Check.due("positions", x.node(1, 6), 3);
        Check.due("balance", x.balance(1, 1), 10);
        Check.yes("crash", x.crash(1));
        nodeIs("down", x, 1, 0, 4, 0, 0, 0, 0, 0, 1, records);
        hasNothingBesides(x, 1, 0);
        Check.due("no account while it is down", x.balance(1, 4), -1);
        Check.due("the others lose nothing", x.node(2, 5), others);
    }

    private static void upAsAtFirst() {
        Check.about("is as at first when it comes up: a MARK (0), a TIMER (0), .. and its balances");
        Counted x = fullOfThings();
        int records = x.node(1, RECORDS);
        x.crash(1);
        Check.yes("restart", x.restart(1));
        nodeIs("up again", x, 1, 1, 4, 0, 0, 0, 0, 0, 1, records);
        hasNothingBesides(x, 1, 100);
        for (int i = 0; i < 6; i++) {
            x.pump(1, 50);
        }
        Check.due("positions, when it has taken all again", x.node(1, 6), 3);
        Check.due("balance, when it has taken all again", x.balance(1, 1), 10);
        Check.yes("no second vertex of a round", x.node(1, 1) == 4 || x.node(1, 1) == 5);
    }

    private static void fallAndRise(Counted x, int node) {
        x.crash(node);
        x.restart(node);
    }

    private static void echoesAreLost() {
        Check.about("What it has besides is lost when it goes DOWN: .. what it noted");
        for (int first = 1; first <= 4; first++) {
            // Echoes of vertex 0 by nodes 3, 2, 1, 0 are 1, 2, 3, 4; whichever two come again, they are too few.
            int second = first % 4 + 1;
            int third = second % 4 + 1;
            Counted x = new Counted();
            x.tick(1);
            for (int node = 3; node >= 0; node--) {
                x.deliver(0, node);
            }
            deliver(x, 3, first, second);
            fallAndRise(x, 3);
            deliver(x, 3, third);
            Check.due("one echo is left", x.message(5, 0), -1);
            deliver(x, 3, second);
            Check.due("two echoes are left", x.message(5, 0), -1);
            deliver(x, 3, first);
            Check.due("three are noted", x.message(5, 0), 2);
        }
    }

    private static void readiesAreLost() {
        Check.about("What it has besides is lost when it goes DOWN: .. what it noted");
        for (int[] order : new int[][] {{5, 6, 7}, {6, 7, 5}, {7, 5, 6}}) {
            Counted x = new Counted();
            threeEchoes(x);
            // Readies of vertex 0 by nodes 1, 2, 3 are 5, 6, 7.
            for (int node = 1; node <= 3; node++) {
                deliver(x, node, 1, 2, 3);
            }
            deliver(x, 0, order[0]);
            fallAndRise(x, 0);
            deliver(x, 0, order[1]);
            Check.due("one ready is left", x.message(8, 0), -1);
            deliver(x, 0, order[0]);
            Check.due("two are noted", x.message(8, 0), 2);
            fallAndRise(x, 0);
            deliver(x, 0, order[2], order[0]);
            Check.due("two of three ready are left", x.node(0, 5), 0);
            deliver(x, 0, order[1]);
            Check.due("three are noted", x.node(0, 5), 1);
        }
    }

    private static void whatWasDeliveredIsLost() {
        Check.about("What it has besides is lost when it goes DOWN: .. what it noted, its DAG");
        Stage s = new Stage(0, 1, 2, 3);
        for (int node = 0; node < 3; node++) {
            s.tick(node, 1);
        }
        for (int v = 0; v < 3; v++) {
            s.spread(v, 0, 1, 2);
        }
        s.spread(3, 3);
        Check.due("the child waits", s.x.node(3, 5), 0);
        s.fallAndRise(3);
        for (int v = 0; v < 3; v++) {
            s.deliverReadies(v, 3);
        }
        Check.due("its parents are there, but it is not", s.x.node(3, 5), 3);
        s.fallAndRise(3);
        s.deliverReadies(3, 3);
        Check.due("it is there again, but its parents are not", s.x.node(3, 5), 0);
        for (int v = 0; v < 3; v++) {
            s.deliverReadies(v, 3);
        }
        Check.due("all are there", s.x.node(3, 5), 4);
    }

    private static void theDiskIsNeverLost() {
        Check.about("on its DISK, written one record after the other and never lost");
        Counted x = new Counted();
        x.submit(0, 0, 1, 1);
        x.submit(0, 0, 1, 2);
        x.submit(0, 0, 1, 3);
        x.crash(0);
        Check.due("QUEUE while it is down", x.node(0, 7), 3);
        x.restart(0);
        Check.due("QUEUE", x.node(0, 7), 3);
        x.tick(0);
        Check.due("first", x.vertex(0, 3), 0);
        Check.due("second", x.vertex(0, 4), 1);
        x.crash(0);
        Check.due("QUEUE while it is down", x.node(0, 7), 1);
        Check.due("ROUND while it is down", x.node(0, 1), 1);
        x.restart(0);
        x.tick(0);
        Check.due("no second first vertex", x.vertex(1, 0), -1);
        Check.due("TIMER", x.node(0, 2), 1);
        Check.due("records", x.node(0, RECORDS), 4);
    }

    /** Each scene ends where the next call makes node 0 write its next record. */
    private static final Scene[] BEFORE_RECORD = {
        x -> x.submit(1, 0, 1, 1),
        x -> x.submit(1, 0, 1, 1),
        x -> x.tick(1),
        EdgesOfFallingTest::threeEchoes,
        EdgesOfFallingTest::twoReadies,
        EdgesOfFallingTest::thirdOfARound,
    };

    private static final Scene[] RECORD = {
        x -> x.submit(0, 0, 1, 1),
        x -> x.tick(0),
        x -> x.deliver(0, 0),
        x -> x.deliver(4, 0),
        x -> x.deliver(6, 0),
        x -> x.deliver(17, 0),
    };

    private static final String[] NAME = {
        "a transfer", "a vertex by a tick", "an echo", "a ready by echoes", "a ready by readies",
        "a vertex by a ready"};

    /** The kind of the message that follows on the record, -1 if none does. */
    private static final int[] KIND = {-1, 0, 1, 2, 2, 0};

    /** Vertex 0 of node 1: SEND is 0, echoes of 3, 2, 1, 0 are 1, 2, 3, 4; node 0 has taken two of them. */
    private static void threeEchoes(Counted x) {
        x.tick(1);
        for (int node = 3; node >= 0; node--) {
            x.deliver(0, node);
        }
        x.deliver(1, 0);
        x.deliver(2, 0);
    }

    /** As threeEchoes, and nodes 1 and 2 are ready, in 5 and 6; node 0 has taken the first of these. */
    private static void twoReadies(Counted x) {
        threeEchoes(x);
        for (int node = 1; node <= 2; node++) {
            deliver(x, node, 1, 2, 3);
        }
        x.deliver(5, 0);
    }

    /**
     * Vertices 0, 1, 2 of round 1: SENDs are 0, 1, 2, echoes 3 .. 6, 7 .. 10, 11 .. 14, readies of nodes 1, 2, 3 are
     * 15 .. 17, 18 .. 20, 21 .. 23. Node 0 lacks one READY for its own vertex, which is the third of the round.
     */
    private static void thirdOfARound(Counted x) {
        for (int node = 0; node < 3; node++) {
            x.tick(node);
        }
        for (int v = 0; v < 3; v++) {
            for (int node = 0; node < 4; node++) {
                x.deliver(v, node);
            }
        }
        for (int v = 0; v < 3; v++) {
            for (int node = 1; node < 4; node++) {
                deliver(x, node, 3 + 4 * v, 4 + 4 * v, 5 + 4 * v);
            }
        }
        deliver(x, 0, 3, 4, 5, 7, 8, 9, 11, 12, 13);
        deliver(x, 0, 18, 19, 20, 21, 22, 23, 15, 16);
    }

    private static void deliver(Counted x, int node, int... messages) {
        for (int m : messages) {
            x.deliver(m, node);
        }
    }

    private static void cutAtEachRecord() {
        Check.about("CUT: the next record is not written, and what would follow is not done: the node is DOWN");
        for (int i = 0; i < RECORD.length; i++) {
            Counted x = BEFORE_RECORD[i].played();
            int records = x.node(0, RECORDS);
            int round = x.node(0, 1);
            int messages = messages(x);
            x.cut(0, 0);
            RECORD[i].play(x);
            nodeIs("cut at " + NAME[i], x, 0, 0, round, 0, 0, 0, 0, 0, 0, records);
            Check.due("messages, cut at " + NAME[i], messages(x), messages);
            Check.yes("restart", x.restart(0));
        }
    }

    private static int messages(Counted x) {
        int m = 0;
        while (x.message(m, 0) >= 0) {
            m++;
        }
        return m;
    }

    private static void cutBehindEachRecord() {
        Check.about("CUT: if a cut after k records is set for a node and k were written since");
        for (int i = 0; i < RECORD.length; i++) {
            Counted x = BEFORE_RECORD[i].played();
            int records = x.node(0, RECORDS);
            int messages = messages(x);
            x.cut(0, 1);
            RECORD[i].play(x);
            Check.due("what follows on " + NAME[i], x.message(messages, 0), KIND[i]);
            Check.due("up behind " + NAME[i], x.node(0, STATE), 1);
            Check.due("records behind " + NAME[i], x.node(0, RECORDS), records + 1);
            Check.due("the next record behind " + NAME[i], x.submit(0, 0, 1, 1), -2);
            Check.due("down behind " + NAME[i], x.node(0, STATE), 0);
            Check.due("records behind " + NAME[i], x.node(0, RECORDS), records + 1);
        }
    }

    private static void cutNeedsARecord() {
        Check.about("CUT: the next record is not written");
        Counted x = new Counted();
        threeEchoes(x);
        x.cut(0, 0);
        Check.yes("a second SEND", x.deliver(0, 0));
        Check.yes("a second echo", x.deliver(1, 0));
        Check.due("a refused transfer", x.submit(0, 0, 0, 1), -1);
        Check.due("up", x.node(0, STATE), 1);
        Counted y = fullOfThings();
        int mark = y.node(1, 3);
        y.crash(1);
        y.restart(1);
        y.cut(1, 0);
        // What it takes again it answered before: INSERT and COMMIT write nothing.
        for (int left = mark; left > 0; left -= 50) {
            y.pump(1, Math.min(50, left));
        }
        Check.due("MARK", y.node(1, 3), mark);
        Check.due("up", y.node(1, STATE), 1);
        Check.due("LAST", y.node(1, 4), 2);
        y.tick(1);
        Check.due("up", y.node(1, STATE), 1);
    }

    private static void cutEndsAPump() {
        Check.about("Promise 4: until .. it is down");
        for (int k = 0; k <= 4; k++) {
            Counted x = new Counted();
            for (int node = 0; node < 4; node++) {
                x.tick(node);
            }
            x.cut(2, k);
            // Four SEND and then its own four ECHO: only the first four need a record.
            Check.due("pump with a cut after " + k, x.pump(2, 50), k < 4 ? k + 1 : 8);
            Check.due("state", x.node(2, STATE), k < 4 ? 0 : 1);
            Check.due("MARK", x.node(2, 3), k < 4 ? 0 : 8);
            Check.due("records", x.node(2, RECORDS), 1 + k);
            Check.due("echoes", messages(x), 4 + k);
        }
    }

    private static void cutCountsFromNowOn() {
        Check.about("Promise 8: a cut of a node after k records from now on");
        for (int k = 0; k <= 5; k++) {
            Counted x = new Counted();
            x.submit(0, 0, 1, 1);
            x.submit(0, 0, 1, 1);
            Check.yes("cut", x.cut(0, k));
            for (int i = 0; i < k; i++) {
                Check.due("submit to another", x.submit(1, 0, 1, 1), 2 + 2 * i);
                Check.due("submit before the cut", x.submit(0, 0, 1, 1), 3 + 2 * i);
                Check.due("state", x.node(0, STATE), 1);
            }
            Check.due("submit at the cut", x.submit(0, 0, 1, 1), -2);
            Check.due("state", x.node(0, STATE), 0);
            Check.due("records", x.node(0, RECORDS), 2 + k);
        }
    }

    private static void cutInPlaceOfAnother() {
        Check.about("Promise 8: in place of one that is set");
        Counted x = new Counted();
        x.cut(0, 0);
        x.cut(0, 2);
        Check.due("first", x.submit(0, 0, 1, 1), 0);
        x.cut(0, 2);
        Check.due("second", x.submit(0, 0, 1, 1), 1);
        Check.due("third", x.submit(0, 0, 1, 1), 2);
        Check.due("cut", x.submit(0, 0, 1, 1), -2);
        Counted y = new Counted();
        y.cut(0, 5);
        y.cut(0, 0);
        Check.due("an earlier one", y.submit(0, 0, 1, 1), -2);
    }

    private static void cutIsOverWhenDown() {
        Check.about("A cut is over when its node goes down");
        Counted x = new Counted();
        x.cut(0, 0);
        Check.due("cut", x.submit(0, 0, 1, 1), -2);
        x.restart(0);
        Check.due("over by itself", x.submit(0, 0, 1, 1), 0);
        x.cut(0, 0);
        x.crash(0);
        x.restart(0);
        Check.due("over by a crash", x.submit(0, 0, 1, 1), 1);
        x.cut(0, 1);
        x.crash(0);
        x.restart(0);
        Check.due("over by a crash", x.submit(0, 0, 1, 1), 2);
        Check.due("for good", x.submit(0, 0, 1, 1), 3);
    }

    private static void cutFarOff() {
        Check.about("Promise 8: false (refused) if k is less than 0");
        Counted x = new Counted();
        Check.yes("cut(0)", x.cut(3, 0));
        Check.yes("cut(most)", x.cut(3, Integer.MAX_VALUE));
        for (int i = 0; i < 40; i++) {
            Check.due("submit", x.submit(3, 0, 1, 1), i);
        }
        x.tick(3);
        x.pump(3, 50);
        Check.due("state", x.node(3, STATE), 1);
        Check.due("records", x.node(3, RECORDS), 42);
        Check.no("cut(-1)", x.cut(3, -1));
        Check.no("cut(least)", x.cut(3, Integer.MIN_VALUE));
    }

    private static void whatWasNotWrittenIsNotPromised() {
        Check.about("CUT: the next record is not written");
        Counted x = new Counted();
        x.corrupt(3);
        x.forge(1, 0, -1, -1);
        x.forge(1, 0, -1, -1);
        x.cut(0, 0);
        x.deliver(0, 0);
        x.restart(0);
        x.deliver(1, 0);
        Check.due("an echo of the other one", x.message(2, 2), 1);
        x.submit(1, 0, 1, 1);
        x.cut(1, 0);
        x.tick(1);
        x.restart(1);
        Check.due("ROUND", x.node(1, 1), 0);
        Check.due("QUEUE", x.node(1, 7), 1);
        x.tick(1);
        Check.due("number", x.vertex(2, 0), 1);
        Check.due("its transfer", x.vertex(2, 3), 0);
    }

    private static void faultyWhileUp() {
        Check.about("What it had is not lost, and stays as it was");
        Counted x = fullOfThings();
        int[] before = new int[9];
        for (int what = 0; what <= 8; what++) {
            before[what] = x.node(1, what);
        }
        before[STATE] = 2;
        int vertex = x.dag(1, 2, 2);
        Check.yes("corrupt", x.corrupt(1));
        nodeIs("faulty", x, 1, before);
        Check.due("dag", x.dag(1, 2, 2), vertex);
        Check.due("at", x.at(1, 2), 2);
        Check.due("balance", x.balance(1, 1), 10);
    }

    private static void faultyWhileDown() {
        Check.about("Promise 9: a node becomes faulty, up or down");
        Counted x = fullOfThings();
        int records = x.node(1, RECORDS);
        x.crash(1);
        Check.yes("corrupt", x.corrupt(1));
        nodeIs("faulty", x, 1, 2, 4, 0, 0, 0, 0, 0, 1, records);
        Check.due("dag", x.dag(1, 1, 1), -1);
        Check.due("balance", x.balance(1, 1), 0);
        Check.no("restart", x.restart(1));
        Check.yes("forge", x.forge(1, 0, -1, -1) >= 0);
        Check.yes("send", x.send(0, 0) >= 0);
    }

    private static void faultyActsNoMore() {
        Check.about("A FAULTY node takes nothing and acts no more");
        Counted x = fullOfThings();
        x.cut(1, 0);
        x.corrupt(1);
        Check.no("deliver", x.deliver(0, 1));
        Check.no("tick", x.tick(1));
        Check.no("crash", x.crash(1));
        Check.no("restart", x.restart(1));
        Check.no("cut", x.cut(1, 0));
        Check.notUp("pump", () -> x.pump(1, 50));
        Check.notUp("submit", () -> x.submit(1, 0, 1, 1));
        nodeIs("faulty", x, 1, 2, 4, 1);
        Check.no("corrupt it again", x.corrupt(1));
        Check.no("corrupt another", x.corrupt(2));
        Check.due("the other is up", x.node(2, STATE), 1);
        Check.yes("the other ticks", x.tick(2));
    }

    private static void forgedLiesOnTheBoardAlone() {
        Check.about("what is forged for it lies on the board alone");
        Counted x = new Counted();
        x.submit(1, 0, 1, 1);
        x.corrupt(1);
        x.cut(1, 0);
        Check.due("forge", x.forge(14, 15, 0, -1), 0);
        Check.due("forge", x.forge(1, 0, 0, 0), 1);
        Check.due("send", x.send(1, 0), 2);
        nodeIs("the forger", x, 1, 2, 0, 0, 0, 0, 0, 0, 1, 1);
        hasNothingBesides(x, 1, 100);
    }
}
