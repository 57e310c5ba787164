/** The promises one by one: ordinary inputs, edges and wrong inputs. What nodes tell each other is in other tests. */
public final class PromisesTest {
    private static final int STATE = 0;
    private static final int ROUND = 1;
    private static final int TIMER = 2;
    private static final int MARK = 3;
    private static final int LAST = 4;
    private static final int IN_DAG = 5;
    private static final int PLACED = 6;
    private static final int QUEUE = 7;
    private static final int RECORDS = 8;

    public static void main(String[] args) {
        newObject();
        submitNumbers();
        submitRefuses();
        submitThrows();
        submitAndCut();
        deliverRefuses();
        pumpCounts();
        pumpRefuses();
        tickAndTimer();
        tickRefuses();
        crashLoses();
        restartBrings();
        cutCounts();
        cutIsReplacedAndOver();
        cutRefuses();
        corruptKeeps();
        corruptRefuses();
        forgeMakes();
        forgeRefuses();
        sendSends();
        sendRefuses();
        queriesOfNothing();
        noSuchNode();
        Check.end();
    }

    private static void nodeIs(String when, Counted x, int node, int... due) {
        for (int what = 0; what < due.length; what++) {
            Check.due(when + ": node(" + node + ", " + what + ")", x.node(node, what), due[what]);
        }
    }

    // Promise 1, and the first answers of 12 to 17

    private static void newObject() {
        Counted x = new Counted();
        for (int node = 0; node < 4; node++) {
            nodeIs("new", x, node, 1, 0, 0, 0, 0, 0, 0, 0, 0);
            Check.due("new: at", x.at(node, 0), -1);
            for (int i = 0; i < 4; i++) {
                Check.due("new: balance", x.balance(node, i), 100);
                Check.due("new: dag", x.dag(node, i, 1), -1);
            }
        }
        Check.due("new: message", x.message(0, 0), -1);
        Check.due("new: vertex", x.vertex(0, 0), -1);
        Check.due("new: no node is faulty", x.forge(1, 0, -1, -1), -1);
    }

    // Promise 2

    private static void submitNumbers() {
        Counted x = new Counted();
        Check.due("submit first", x.submit(2, 0, 1, 1), 0);
        Check.due("submit elsewhere", x.submit(0, 3, 2, 1000), 1);
        Check.due("submit again", x.submit(2, 1, 0, 500), 2);
        nodeIs("submitted", x, 2, 1, 0, 0, 0, 0, 0, 0, 2, 2);
        nodeIs("submitted", x, 0, 1, 0, 0, 0, 0, 0, 0, 1, 1);
        nodeIs("submitted", x, 1, 1, 0, 0, 0, 0, 0, 0, 0, 0);
        Check.due("a transfer is no message", x.message(0, 0), -1);
        Check.due("balance before it is done", x.balance(2, 0), 100);
    }

    private static void submitRefuses() {
        Counted x = new Counted();
        Check.due("from -1", x.submit(0, -1, 1, 1), -1);
        Check.due("from 4", x.submit(0, 4, 1, 1), -1);
        Check.due("to -1", x.submit(0, 0, -1, 1), -1);
        Check.due("to 4", x.submit(0, 0, 4, 1), -1);
        Check.due("the same account", x.submit(0, 3, 3, 1), -1);
        Check.due("amount 0", x.submit(0, 0, 1, 0), -1);
        Check.due("amount -1", x.submit(0, 0, 1, -1), -1);
        Check.due("amount 1001", x.submit(0, 0, 1, 1001), -1);
        Check.due("amount least", x.submit(0, 0, 1, Integer.MIN_VALUE), -1);
        nodeIs("refused", x, 0, 1, 0, 0, 0, 0, 0, 0, 0, 0);
        for (int i = 0; i < 40; i++) {
            Check.due("submit of forty", x.submit(i % 4, 0, 1, 1), i);
        }
        x.cut(0, 0);
        Check.due("submit beyond forty", x.submit(0, 0, 1, 1), -1);
        nodeIs("forty", x, 0, 1, 0, 0, 0, 0, 0, 0, 10, 10);
    }

    private static void submitThrows() {
        Counted x = new Counted();
        x.crash(1);
        x.corrupt(2);
        Check.notUp("submit down", () -> x.submit(1, 0, 1, 1));
        Check.notUp("submit faulty", () -> x.submit(2, 0, 1, 1));
        Check.notUp("submit down, wrong amount", () -> x.submit(1, 0, 1, 0));
        Check.noSuchNode("submit, wrong node and amount", () -> x.submit(4, 0, 1, 0));
        Check.due("nothing was submitted", x.submit(0, 0, 1, 1), 0);
    }

    private static void submitAndCut() {
        Counted x = new Counted();
        x.submit(0, 0, 1, 1);
        x.cut(0, 1);
        Check.due("refused writes nothing", x.submit(0, 0, 0, 1), -1);
        Check.due("submit before the cut", x.submit(0, 0, 1, 1), 1);
        Check.due("submit at the cut", x.submit(0, 0, 1, 1), -2);
        nodeIs("cut at submit", x, 0, 0, 0, 0, 0, 0, 0, 0, 2, 2);
        Check.due("the number was not used", x.submit(1, 0, 1, 1), 2);
    }

    // Promise 3

    private static void deliverRefuses() {
        Counted x = new Counted();
        Check.no("deliver of none", x.deliver(0, 0));
        x.tick(0);
        Check.no("deliver -1", x.deliver(-1, 0));
        Check.no("deliver beyond", x.deliver(1, 0));
        x.crash(1);
        x.corrupt(2);
        Check.no("deliver to one that is down", x.deliver(0, 1));
        Check.no("deliver to a faulty one", x.deliver(0, 2));
        Check.due("nothing was sent", x.message(1, 0), -1);
        Check.yes("deliver", x.deliver(0, 3));
        Check.due("it was echoed", x.message(1, 0), 1);
        Check.due("mark after deliver", x.node(3, MARK), 0);
        Check.noSuchNode("deliver of none to none", () -> Check.bit(x.deliver(-1, 4)));
    }

    // Promise 4

    private static void pumpCounts() {
        Counted x = new Counted();
        Check.due("pump of nothing", x.pump(0, 50), 0);
        for (int node = 0; node < 4; node++) {
            x.tick(node);
        }
        Check.due("pump 1", x.pump(0, 1), 1);
        Check.due("mark", x.node(0, MARK), 1);
        Check.due("pump 2", x.pump(0, 2), 2);
        Check.due("mark", x.node(0, MARK), 3);
        // The fourth SEND, and the four echoes of its own.
        Check.due("pump what there is, and what comes", x.pump(0, 50), 5);
        Check.due("mark", x.node(0, MARK), 8);
        Check.due("pump when all is taken", x.pump(0, 50), 0);
        Check.due("records", x.node(0, RECORDS), 5);
        x.cut(1, 2);
        // SEND 0 and SEND 1 are echoed, SEND 2 takes it down.
        Check.due("pump until it is down", x.pump(1, 50), 3);
        nodeIs("cut in pump", x, 1, 0, 1, 0, 0, 0, 0, 0, 0, 3);
        Check.due("its last echo", x.message(9, 2), 1);
        Check.due("no echo more", x.message(10, 0), -1);
    }

    private static void pumpRefuses() {
        Counted x = new Counted();
        x.tick(0);
        Check.due("pump 0", x.pump(0, 0), -1);
        Check.due("pump -1", x.pump(0, -1), -1);
        Check.due("pump 51", x.pump(0, 51), -1);
        Check.due("pump most", x.pump(0, Integer.MAX_VALUE), -1);
        Check.due("mark when refused", x.node(0, MARK), 0);
        x.crash(1);
        x.corrupt(2);
        Check.notUp("pump down", () -> x.pump(1, 1));
        Check.notUp("pump faulty", () -> x.pump(2, 1));
        Check.notUp("pump down, wrong n", () -> x.pump(1, 0));
        Check.noSuchNode("pump none, wrong n", () -> x.pump(-1, 0));
    }

    // Promise 5

    private static void tickAndTimer() {
        Counted x = new Counted();
        Check.yes("tick", x.tick(3));
        nodeIs("first tick", x, 3, 1, 1, 0, 0, 0, 0, 0, 0, 1);
        Check.due("its author", x.vertex(0, 0), 3);
        Check.due("its round", x.vertex(0, 1), 1);
        Check.due("its parents", x.vertex(0, 2), 0);
        Check.due("SEND of it", x.message(0, 0), 0);
        Check.due("from it", x.message(0, 1), 3);
        for (int grown : new int[] {1, 2, 3, 3, 3}) {
            Check.yes("tick", x.tick(3));
            Check.due("timer", x.node(3, TIMER), grown);
        }
        Check.due("no vertex more", x.vertex(1, 0), -1);
        x.cut(2, 0);
        Check.yes("tick that takes it down", x.tick(2));
        nodeIs("cut in tick", x, 2, 0, 0, 0, 0, 0, 0, 0, 0);
        Check.due("no vertex was made", x.vertex(1, 0), -1);
        Check.due("and none sent", x.message(1, 0), -1);
    }

    private static void tickRefuses() {
        Counted x = new Counted();
        x.crash(0);
        x.tick(1);
        x.tick(1);
        x.corrupt(1);
        Check.no("tick down", x.tick(0));
        Check.no("tick faulty", x.tick(1));
        Check.due("its timer stays", x.node(1, TIMER), 1);
        Check.due("its round stays", x.node(0, ROUND), 0);
        Check.noSuchNode("tick none", () -> Check.bit(x.tick(4)));
    }

    // Promise 6

    private static void crashLoses() {
        Counted x = Runs.fourNodes(4, 10);
        int round = x.node(0, ROUND);
        int records = x.node(0, RECORDS);
        x.tick(0);
        x.submit(0, 1, 2, 1);
        Check.yes("something to lose", x.node(0, MARK) > 0 && x.node(0, LAST) > 0 && x.node(0, PLACED) > 0);
        Check.yes("crash", x.crash(0));
        nodeIs("down", x, 0, 0, round, 0, 0, 0, 0, 0, 1, records + 1);
        Check.due("dag while down", x.dag(0, 0, 1), -1);
        Check.due("at while down", x.at(0, 0), -1);
        Check.due("balance while down", x.balance(0, 1), 0);
        Check.due("balance of none while down", x.balance(0, 4), -1);
        Check.no("crash while down", x.crash(0));
        x.corrupt(1);
        Check.no("crash of a faulty one", x.crash(1));
        Check.due("it is faulty still", x.node(1, STATE), 2);
        Check.yes("the others lost nothing", x.node(2, IN_DAG) > 0 && x.node(1, IN_DAG) > 0);
        Check.noSuchNode("crash none", () -> Check.bit(x.crash(-1)));
    }

    // Promise 7

    private static void restartBrings() {
        Counted x = Runs.fourNodes(4, 10);
        int round = x.node(0, ROUND);
        int records = x.node(0, RECORDS);
        int last = x.node(0, LAST);
        int placed = x.node(0, PLACED);
        int balance = x.balance(0, 0);
        Check.no("restart while up", x.restart(0));
        Check.due("nothing was lost", x.node(0, LAST), last);
        x.crash(0);
        Check.yes("restart", x.restart(0));
        nodeIs("up again", x, 0, 1, round, 0, 0, 0, 0, 0, 0, records);
        Check.due("balance as at first", x.balance(0, 0), 100);
        Check.due("dag as at first", x.dag(0, 0, 1), -1);
        Check.due("at as at first", x.at(0, 0), -1);
        Check.no("restart twice", x.restart(0));
        for (int i = 0; i < 10; i++) {
            x.pump(0, 50);
        }
        Check.yes("it has caught up", x.node(0, LAST) >= last && x.node(0, PLACED) == placed);
        Check.due("each is done once", x.balance(0, 0), balance);
        x.crash(1);
        x.corrupt(1);
        Check.no("restart of a faulty one", x.restart(1));
        Check.due("it is faulty still", x.node(1, STATE), 2);
        Check.noSuchNode("restart none", () -> Check.bit(x.restart(4)));
    }

    // Promise 8

    private static void cutCounts() {
        Counted x = new Counted();
        x.submit(0, 0, 1, 1);
        Check.yes("cut after 3", x.cut(0, 3));
        x.tick(0);
        x.deliver(0, 0);
        Check.due("the third record", x.submit(0, 0, 1, 1), 1);
        Check.due("up after three", x.node(0, STATE), 1);
        Check.due("down at the fourth", x.submit(0, 0, 1, 1), -2);
        nodeIs("cut", x, 0, 0, 1, 0, 0, 0, 0, 0, 1, 4);
        x.cut(1, 0);
        Check.yes("deliver that takes it down", x.deliver(0, 1));
        nodeIs("cut at an echo", x, 1, 0, 0, 0, 0, 0, 0, 0, 0, 0);
        Check.due("no echo", x.message(2, 0), -1);
        x.restart(1);
        x.deliver(0, 1);
        Check.due("what was not written is not promised", x.message(2, 1), 1);
        Check.yes("cut far off", x.cut(2, Integer.MAX_VALUE));
        x.deliver(0, 2);
        Check.due("echo before it", x.message(3, 1), 2);
        x.cut(3, 0);
        for (int m = 1; m <= 2; m++) {
            x.deliver(m, 3);
        }
        Check.due("two echoes need no record", x.node(3, STATE), 1);
        x.deliver(3, 3);
        Check.due("cut at a ready", x.node(3, STATE), 0);
        Check.due("no ready", x.message(4, 0), -1);
    }

    private static void cutIsReplacedAndOver() {
        Counted x = new Counted();
        x.cut(0, 0);
        x.cut(0, 1);
        Check.due("the later cut counts", x.submit(0, 0, 1, 1), 0);
        x.cut(0, 1);
        Check.due("it counts from now on", x.submit(0, 0, 1, 1), 1);
        Check.due("and comes", x.submit(0, 0, 1, 1), -2);
        x.restart(0);
        Check.due("then it is over", x.submit(0, 0, 1, 1), 2);
        Check.due("for good", x.submit(0, 0, 1, 1), 3);
        x.cut(0, 0);
        x.crash(0);
        x.restart(0);
        Check.due("a crash ends it", x.submit(0, 0, 1, 1), 4);
        x.cut(0, 0);
        Check.due("it is for one node", x.submit(1, 0, 1, 1), 5);
    }

    private static void cutRefuses() {
        Counted x = new Counted();
        x.cut(0, 0);
        Check.no("cut -1", x.cut(0, -1));
        Check.no("cut least", x.cut(0, Integer.MIN_VALUE));
        Check.due("the one that is set stays", x.submit(0, 0, 1, 1), -2);
        Check.no("cut while down", x.cut(0, 0));
        x.restart(0);
        Check.due("it was not set", x.submit(0, 0, 1, 1), 0);
        x.corrupt(1);
        Check.no("cut of a faulty one", x.cut(1, 0));
        Check.noSuchNode("cut of none", () -> Check.bit(x.cut(4, -1)));
    }

    // Promise 9

    private static void corruptKeeps() {
        Counted x = Runs.fourNodes(4, 10);
        x.submit(3, 1, 2, 1);
        x.cut(3, 0);
        int[] before = new int[9];
        for (int what = 1; what <= 8; what++) {
            before[what] = x.node(3, what);
        }
        before[STATE] = 2;
        int vertex = x.dag(3, 2, 1);
        int balance = x.balance(3, 0);
        Check.yes("corrupt", x.corrupt(3));
        nodeIs("faulty", x, 3, before);
        Check.no("deliver", x.deliver(0, 3));
        x.forge(1, 0, 0, 1);
        x.send(1, 0);
        nodeIs("faulty and talking", x, 3, before);
        Check.due("its dag", x.dag(3, 2, 1), vertex);
        Check.due("its order", x.at(3, 0), x.at(0, 0));
        Check.due("its balance", x.balance(3, 0), balance);
    }

    private static void corruptRefuses() {
        Counted x = new Counted();
        x.submit(2, 0, 1, 1);
        x.crash(2);
        Check.noSuchNode("corrupt none", () -> Check.bit(x.corrupt(4)));
        Check.yes("corrupt one that is down", x.corrupt(2));
        nodeIs("down and faulty", x, 2, 2, 0, 0, 0, 0, 0, 0, 1, 1);
        Check.due("it has no balance", x.balance(2, 0), 0);
        Check.no("corrupt it twice", x.corrupt(2));
        Check.no("corrupt another", x.corrupt(0));
        Check.due("the other is up", x.node(0, STATE), 1);
        Check.noSuchNode("corrupt none, when one is", () -> Check.bit(x.corrupt(-1)));
        Check.due("it forges", x.forge(1, 0, -1, -1), 0);
    }

    // Promise 10

    private static void forgeMakes() {
        Counted x = new Counted();
        x.submit(1, 0, 1, 1);
        x.submit(0, 0, 1, 1);
        x.corrupt(1);
        x.tick(0);
        Check.due("forge", x.forge(14, 15, 1, 0), 1);
        Check.due("forge of nothing", x.forge(1, 0, -1, -1), 2);
        Check.due("forge of a second alone", x.forge(3, 8, -1, 1), 3);
        Check.due("forge of one twice", x.forge(1, 15, 0, 0), 4);
        int[][] due = {{1, 14, 15, 1, 0}, {1, 1, 0, -1, -1}, {1, 3, 8, -1, 1}, {1, 1, 15, 0, 0}};
        for (int i = 0; i < due.length; i++) {
            for (int what = 0; what < 5; what++) {
                Check.due("vertex(" + (i + 1) + ", " + what + ")", x.vertex(i + 1, what), due[i][what]);
            }
            Check.due("kind", x.message(i + 1, 0), 0);
            Check.due("sender", x.message(i + 1, 1), 1);
            Check.due("vertex", x.message(i + 1, 2), i + 1);
        }
        nodeIs("the forger", x, 1, 2, 0, 0, 0, 0, 0, 0, 1, 1);
    }

    private static void forgeRefuses() {
        Counted x = new Counted();
        x.submit(0, 0, 1, 1);
        Check.due("none is faulty", x.forge(1, 0, -1, -1), -1);
        x.corrupt(3);
        Check.due("round 0", x.forge(0, 0, -1, -1), -1);
        Check.due("round 15", x.forge(15, 7, -1, -1), -1);
        Check.due("parents -1", x.forge(2, -1, -1, -1), -1);
        Check.due("parents 16", x.forge(2, 16, -1, -1), -1);
        Check.due("a -2", x.forge(1, 0, -2, -1), -1);
        Check.due("a beyond", x.forge(1, 0, 1, -1), -1);
        Check.due("b -2", x.forge(1, 0, -1, -2), -1);
        Check.due("b beyond", x.forge(1, 0, -1, 1), -1);
        Check.due("nothing was made", x.vertex(0, 0), -1);
        Check.due("nothing was sent", x.message(0, 0), -1);
        Check.due("forge", x.forge(14, 0, 0, 0), 0);
    }

    // Promise 11

    private static void sendSends() {
        Counted x = new Counted();
        x.tick(0);
        x.corrupt(2);
        for (int kind = 0; kind < 3; kind++) {
            Check.due("send", x.send(kind, 0), kind + 1);
            Check.due("kind", x.message(kind + 1, 0), kind);
            Check.due("sender", x.message(kind + 1, 1), 2);
            Check.due("vertex", x.message(kind + 1, 2), 0);
        }
        Check.due("send again", x.send(2, 0), 4);
        nodeIs("the talker", x, 2, 2, 0, 0, 0, 0, 0, 0, 0, 0);
    }

    private static void sendRefuses() {
        Counted x = new Counted();
        x.tick(0);
        Check.due("none is faulty", x.send(0, 0), -1);
        x.corrupt(2);
        Check.due("kind -1", x.send(-1, 0), -1);
        Check.due("kind 3", x.send(3, 0), -1);
        Check.due("vertex -1", x.send(0, -1), -1);
        Check.due("vertex beyond", x.send(0, 1), -1);
        Check.due("nothing was sent", x.message(1, 0), -1);
    }

    // Promises 12 to 17

    private static void queriesOfNothing() {
        Counted x = Runs.fourNodes(4, 10);
        Check.due("message -1", x.message(-1, 0), -1);
        Check.due("message beyond", x.message(800, 0), -1);
        Check.due("message far beyond", x.message(Integer.MAX_VALUE, 0), -1);
        Check.due("message, what -1", x.message(0, -1), -1);
        Check.due("message, what 3", x.message(0, 3), -1);
        Check.due("vertex -1", x.vertex(-1, 0), -1);
        Check.due("vertex 90", x.vertex(90, 0), -1);
        Check.due("vertex, what -1", x.vertex(0, -1), -1);
        Check.due("vertex, what 5", x.vertex(0, 5), -1);
        Check.due("node, what -1", x.node(0, -1), -1);
        Check.due("node, what 9", x.node(0, 9), -1);
        Check.due("dag, author -1", x.dag(0, -1, 2), -1);
        Check.due("dag, author 4", x.dag(0, 4, 1), -1);
        Check.due("dag, round 0", x.dag(0, 0, 0), -1);
        Check.due("dag, round 15", x.dag(0, 0, 15), -1);
        Check.due("dag, round least", x.dag(0, 0, Integer.MIN_VALUE), -1);
        Check.due("at -1", x.at(0, -1), -1);
        Check.due("at beyond", x.at(0, x.node(0, PLACED)), -1);
        Check.due("at 40", x.at(0, 40), -1);
        Check.due("balance -1", x.balance(0, -1), -1);
        Check.due("balance 4", x.balance(0, 4), -1);
    }

    private static void noSuchNode() {
        Counted x = new Counted();
        for (int none : new int[] {-1, 4, Integer.MIN_VALUE, Integer.MAX_VALUE}) {
            Check.noSuchNode("submit", () -> x.submit(none, 0, 1, 1));
            Check.noSuchNode("deliver", () -> Check.bit(x.deliver(0, none)));
            Check.noSuchNode("pump", () -> x.pump(none, 1));
            Check.noSuchNode("tick", () -> Check.bit(x.tick(none)));
            Check.noSuchNode("crash", () -> Check.bit(x.crash(none)));
            Check.noSuchNode("restart", () -> Check.bit(x.restart(none)));
            Check.noSuchNode("cut", () -> Check.bit(x.cut(none, 0)));
            Check.noSuchNode("corrupt", () -> Check.bit(x.corrupt(none)));
            Check.noSuchNode("node", () -> x.node(none, 0));
            Check.noSuchNode("node, wrong what", () -> x.node(none, 9));
            Check.noSuchNode("dag", () -> x.dag(none, 0, 1));
            Check.noSuchNode("dag, wrong author", () -> x.dag(none, 4, 0));
            Check.noSuchNode("at", () -> x.at(none, -1));
            Check.noSuchNode("balance", () -> x.balance(none, 4));
        }
    }
}
