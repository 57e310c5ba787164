/** The limits that the promises name for the numbers they are given and for those they answer. */
public final class EdgesOfCallsTest {
    private static final int MIN = Integer.MIN_VALUE;
    private static final int MAX = Integer.MAX_VALUE;

    public static void main(String[] args) {
        newObject();
        submitAccounts();
        submitToTheSame();
        submitAmount();
        submitNotUp();
        deliverNoSuchMessage();
        deliverAgainAndAgain();
        deliverWhileItGoesDown();
        pumpOneToFifty();
        pumpAtMostN();
        pumpUntilThereAreNoMore();
        pumpNotUp();
        tickNotAboveThree();
        tickNotUp();
        crashTwice();
        restartTwice();
        corruptOne();
        forgeRounds();
        forgeParents();
        forgeTransfers();
        forgeWithoutTransfers();
        sendKinds();
        sendVertices();
        messageNumbers();
        vertexNumbers();
        nodeNumbers();
        dagNumbers();
        atNumbers();
        balanceNumbers();
        Check.end();
    }

    private static void newObject() {
        Check.about("Promise 1: All nodes up, without anything, an empty board");
        new Snapshot(x -> { }).mustBeNew("new");
    }

    private static void submitAccounts() {
        Check.about("Promise 2: -1 (refused) if .. one of the accounts is none");
        Counted x = new Counted();
        for (int none : new int[] {-1, 4, MIN, MAX}) {
            Check.due("submit from " + none, x.submit(0, none, 1, 1), -1);
            Check.due("submit to " + none, x.submit(0, 1, none, 1), -1);
            Check.due("submit from and to " + none, x.submit(0, none, none, 1), -1);
        }
        int number = 0;
        for (int from = 0; from < 4; from++) {
            for (int to = 0; to < 4; to++) {
                if (from != to) {
                    Check.due("submit from " + from + " to " + to, x.submit(0, from, to, 1), number);
                    number++;
                }
            }
        }
    }

    private static void submitToTheSame() {
        Check.about("Promise 2: -1 (refused) if .. they are the same");
        Counted x = new Counted();
        for (int account = 0; account < 4; account++) {
            Check.due("submit from and to " + account, x.submit(0, account, account, 1), -1);
        }
        Check.due("records", x.node(0, 8), 0);
    }

    private static void submitAmount() {
        Check.about("Promise 2: -1 (refused) if .. amount is not 1 .. 1000");
        Counted x = new Counted();
        for (int amount : new int[] {0, -1, 1001, 1002, MIN, MAX}) {
            Check.due("submit of " + amount, x.submit(0, 0, 1, amount), -1);
        }
        int number = 0;
        for (int amount : new int[] {1, 2, 999, 1000}) {
            Check.due("submit of " + amount, x.submit(0, 0, 1, amount), number);
            number++;
        }
    }

    private static void submitNotUp() {
        Check.about("Promise 2: IllegalStateException: the node is down or faulty");
        Counted x = new Counted();
        x.crash(1);
        x.corrupt(2);
        Check.notUp("submit to one that is down", () -> x.submit(1, 0, 1, 1));
        Check.notUp("submit to a faulty one", () -> x.submit(2, 0, 1, 1));
        x.restart(1);
        Check.due("submit to one that is up again", x.submit(1, 0, 1, 1), 0);
    }

    private static void deliverNoSuchMessage() {
        Check.about("Promise 3: false (refused) if there is no such message");
        Counted x = new Counted();
        Check.no("deliver(0) of an empty board", x.deliver(0, 0));
        x.tick(0);
        x.tick(1);
        for (int m : new int[] {-1, 2, 800, MIN, MAX}) {
            Check.no("deliver(" + m + ")", x.deliver(m, 2));
        }
        Check.yes("deliver of the last", x.deliver(1, 2));
        Check.due("echo of the last", x.message(2, 2), 1);
        Check.yes("deliver of the first", x.deliver(0, 2));
        Check.due("echo of the first", x.message(3, 2), 0);
        Check.yes("deliver of what was sent under way", x.deliver(3, 2));
        Check.no("deliver of one more", x.deliver(4, 2));
    }

    private static void deliverAgainAndAgain() {
        Check.about("Promise 3: a node takes a message: true");
        Counted x = new Counted();
        x.tick(0);
        x.tick(1);
        for (int i = 0; i < 3; i++) {
            for (int node = 0; node < 4; node++) {
                Check.yes("deliver", x.deliver(1, node));
                Check.due("MARK does not go along", x.node(node, 3), 0);
            }
        }
        Check.due("one echo of each", x.message(5, 0), 1);
        Check.due("and no more", x.message(6, 0), -1);
        Check.due("pump begins at MARK", x.pump(0, 1), 1);
        Check.due("an echo of the first", x.message(6, 2), 0);
    }

    private static void deliverWhileItGoesDown() {
        Check.about("Promise 3: a node takes a message: true; false (refused) if .. it is down or faulty");
        Counted x = new Counted();
        x.tick(0);
        x.cut(1, 0);
        Check.yes("deliver that takes it down", x.deliver(0, 1));
        Check.no("deliver to one that is down", x.deliver(0, 1));
        x.corrupt(2);
        Check.no("deliver to a faulty one", x.deliver(0, 2));
        Check.due("no echo", x.message(1, 0), -1);
        x.restart(1);
        Check.yes("deliver to one that is up again", x.deliver(0, 1));
        Check.due("an echo", x.message(1, 1), 1);
    }

    private static void pumpOneToFifty() {
        Check.about("Promise 4: -1 (refused) if n is not 1 .. 50");
        Counted x = new Counted();
        x.tick(0);
        for (int n : new int[] {0, -1, 51, 52, MIN, MAX}) {
            Check.due("pump(" + n + ")", x.pump(0, n), -1);
            Check.due("MARK", x.node(0, 3), 0);
        }
        Check.due("pump(1)", x.pump(0, 1), 1);
        Check.due("pump(50)", x.pump(1, 50), 3);
    }

    /** Sixty messages, of which only the first needs an answer. */
    private static Counted sixtyMessages() {
        Counted x = new Counted();
        x.corrupt(3);
        x.forge(1, 0, -1, -1);
        for (int i = 0; i < 59; i++) {
            x.send(0, 0);
        }
        return x;
    }

    private static void pumpAtMostN() {
        Check.about("Promise 4: the messages from its MARK on, at most n, MARK going along");
        Counted x = sixtyMessages();
        Check.due("pump(50)", x.pump(0, 50), 50);
        Check.due("MARK", x.node(0, 3), 50);
        Check.due("pump(1)", x.pump(0, 1), 1);
        Check.due("MARK", x.node(0, 3), 51);
        Check.due("pump(50)", x.pump(0, 50), 10);
        Check.due("MARK", x.node(0, 3), 61);
        Check.due("pump(49)", x.pump(1, 49), 49);
        Check.due("MARK", x.node(1, 3), 49);
        Check.due("MARK of another", x.node(2, 3), 0);
    }

    private static void pumpUntilThereAreNoMore() {
        Check.about("Promise 4: until there are no more");
        Counted x = new Counted();
        Check.due("pump of an empty board", x.pump(0, 50), 0);
        Check.due("MARK", x.node(0, 3), 0);
        x.tick(0);
        x.tick(1);
        Check.due("pump(3), the first answer too", x.pump(0, 3), 3);
        Check.due("pump(1), the last one", x.pump(0, 1), 1);
        Check.due("pump of nothing", x.pump(0, 1), 0);
        Check.due("MARK", x.node(0, 3), 4);
    }

    private static void pumpNotUp() {
        Check.about("Promise 4: IllegalStateException: the node is down or faulty");
        Counted x = new Counted();
        x.tick(0);
        x.pump(1, 1);
        x.crash(1);
        x.corrupt(2);
        Check.notUp("pump of one that is down", () -> x.pump(1, 1));
        Check.notUp("pump of a faulty one", () -> x.pump(2, 1));
        x.restart(1);
        Check.due("pump from MARK 0 on", x.pump(1, 50), 2);
    }

    private static void tickNotAboveThree() {
        Check.about("Promise 5: TIMER of a node grows by 1, but not above 3");
        Counted x = new Counted();
        x.tick(0);
        Check.due("TIMER after ADVANCE", x.node(0, 2), 0);
        for (int timer : new int[] {1, 2, 3, 3, 3, 3}) {
            Check.yes("tick", x.tick(0));
            Check.due("TIMER", x.node(0, 2), timer);
        }
        Check.due("TIMER of another", x.node(1, 2), 0);
        Check.due("ROUND", x.node(0, 1), 1);
    }

    private static void tickNotUp() {
        Check.about("Promise 5: false (refused) if it is down or faulty");
        Counted x = new Counted();
        x.crash(1);
        x.corrupt(2);
        Check.no("tick of one that is down", x.tick(1));
        Check.no("tick of a faulty one", x.tick(2));
        Check.due("TIMER", x.node(1, 2), 0);
        Check.due("TIMER", x.node(2, 2), 0);
        Check.due("no vertex", x.vertex(0, 0), -1);
        x.restart(1);
        x.cut(1, 0);
        Check.yes("tick that takes it down", x.tick(1));
        Check.no("tick of one that is down", x.tick(1));
    }

    private static void crashTwice() {
        Check.about("Promise 6: false (refused) if it is down or faulty");
        Counted x = new Counted();
        for (int node = 0; node < 4; node++) {
            Check.yes("crash", x.crash(node));
            Check.due("state", x.node(node, 0), 0);
            Check.no("crash again", x.crash(node));
        }
        x.restart(0);
        x.corrupt(0);
        Check.no("crash of a faulty one", x.crash(0));
        Check.due("state", x.node(0, 0), 2);
        x.restart(1);
        x.cut(1, 0);
        x.tick(1);
        Check.no("crash of one that a cut took down", x.crash(1));
    }

    private static void restartTwice() {
        Check.about("Promise 7: false (refused) if it is up or faulty");
        Counted x = new Counted();
        for (int node = 0; node < 4; node++) {
            Check.no("restart of one that is up", x.restart(node));
            x.crash(node);
            Check.yes("restart", x.restart(node));
            Check.due("state", x.node(node, 0), 1);
            Check.no("restart again", x.restart(node));
        }
        x.cut(1, 0);
        x.tick(1);
        Check.yes("restart of one that a cut took down", x.restart(1));
        x.crash(2);
        x.corrupt(2);
        Check.no("restart of a faulty one that was down", x.restart(2));
        Check.due("state", x.node(2, 0), 2);
    }

    private static void corruptOne() {
        Check.about("Promise 9: true; false (refused) if one is");
        for (int first = 0; first < 4; first++) {
            Counted x = new Counted();
            Check.yes("corrupt", x.corrupt(first));
            Check.due("state", x.node(first, 0), 2);
            for (int node = 0; node < 4; node++) {
                Check.no("corrupt again", x.corrupt(node));
                Check.due("state", x.node(node, 0), node == first ? 2 : 1);
            }
            Check.due("who forges", x.vertex(x.forge(1, 0, -1, -1), 0), first);
            Check.due("who sends", x.message(x.send(1, 0), 1), first);
        }
    }

    /** Node 3 is faulty; three transfers are there, one of them its own. */
    private static Counted forger() {
        Counted x = new Counted();
        x.submit(0, 0, 1, 1);
        x.submit(3, 0, 1, 1);
        x.submit(1, 0, 1, 1);
        Check.due("forge where none is faulty", x.forge(1, 0, -1, -1), -1);
        Check.due("send where none is faulty", x.send(0, 0), -1);
        x.corrupt(3);
        return x;
    }

    private static void forgedIs(Counted x, int v, int round, int parents, int a, int b) {
        int[] due = {3, round, parents, a, b};
        for (int what = 0; what < due.length; what++) {
            Check.due("vertex(" + v + ", " + what + ")", x.vertex(v, what), due[what]);
        }
        Check.due("SEND of " + v, x.message(v, 2), v);
        Check.due("no message more", x.message(v + 1, 0), -1);
        Check.due("no vertex more", x.vertex(v + 1, 0), -1);
    }

    private static void forgeRounds() {
        Check.about("Promise 10: of a round 1 .. 14");
        Counted x = forger();
        for (int round : new int[] {0, -1, 15, 16, MIN, MAX}) {
            Check.due("forge of round " + round, x.forge(round, 7, -1, -1), -1);
        }
        for (int round = 1; round <= 14; round++) {
            Check.due("forge of round " + round, x.forge(round, 7, -1, -1), round - 1);
            forgedIs(x, round - 1, round, 7, -1, -1);
        }
    }

    private static void forgeParents() {
        Check.about("Promise 10: parents 0 .. 15");
        Counted x = forger();
        for (int parents : new int[] {-1, 16, 17, MIN, MAX}) {
            Check.due("forge with parents " + parents, x.forge(2, parents, -1, -1), -1);
        }
        for (int parents = 0; parents <= 15; parents++) {
            Check.due("forge with parents " + parents, x.forge(2, parents, -1, -1), parents);
            forgedIs(x, parents, 2, parents, -1, -1);
        }
    }

    private static void forgeTransfers() {
        Check.about("Promise 10: transfers a and b (-1: none; any that are there)");
        Counted x = forger();
        for (int none : new int[] {-2, 3, 40, MIN, MAX}) {
            Check.due("forge with a = " + none, x.forge(1, 0, none, 0), -1);
            Check.due("forge with b = " + none, x.forge(1, 0, 0, none), -1);
        }
        int number = 0;
        for (int a = -1; a <= 2; a++) {
            for (int b = -1; b <= 2; b++) {
                Check.due("forge with " + a + ", " + b, x.forge(1, 0, a, b), number);
                forgedIs(x, number, 1, 0, a, b);
                number++;
            }
        }
    }

    private static void forgeWithoutTransfers() {
        Check.about("Promise 10: any that are there");
        Counted x = new Counted();
        x.corrupt(0);
        Check.due("forge of the first transfer before it is there", x.forge(1, 0, 0, -1), -1);
        Check.due("forge of the first transfer before it is there", x.forge(1, 0, -1, 0), -1);
        Check.due("forge of none", x.forge(1, 0, -1, -1), 0);
        x.submit(1, 0, 1, 1);
        Check.due("forge of the first transfer", x.forge(1, 0, 0, 0), 1);
    }

    private static void sendKinds() {
        Check.about("Promise 11: -1 (refused) if .. there is no such kind");
        Counted x = forger();
        x.forge(1, 0, -1, -1);
        for (int kind : new int[] {-1, 3, 4, MIN, MAX}) {
            Check.due("send of kind " + kind, x.send(kind, 0), -1);
        }
        for (int kind = 0; kind <= 2; kind++) {
            Check.due("send of kind " + kind, x.send(kind, 0), kind + 1);
            Check.due("kind", x.message(kind + 1, 0), kind);
        }
    }

    private static void sendVertices() {
        Check.about("Promise 11: -1 (refused) if .. there is no such .. vertex");
        Counted x = forger();
        Check.due("send of vertex 0 before it is there", x.send(0, 0), -1);
        x.tick(0);
        x.tick(1);
        for (int v : new int[] {-1, 2, 90, MIN, MAX}) {
            Check.due("send of vertex " + v, x.send(0, v), -1);
        }
        Check.due("send of vertex 1", x.send(0, 1), 2);
        Check.due("send of vertex 0", x.send(2, 0), 3);
        Check.due("vertex", x.message(2, 2), 1);
        Check.due("sender", x.message(2, 1), 3);
    }

    private static void messageNumbers() {
        Check.about("Promise 12: -1 if there is none, or for another what");
        Counted x = new Counted();
        Check.due("message(0) of an empty board", x.message(0, 0), -1);
        x.tick(2);
        x.deliver(0, 1);
        for (int m : new int[] {-1, 2, 800, MIN, MAX}) {
            for (int what = -1; what <= 3; what++) {
                Check.due("message(" + m + ", " + what + ")", x.message(m, what), -1);
            }
        }
        int[][] due = {{0, 2, 0}, {1, 1, 0}};
        for (int m = 0; m <= 1; m++) {
            for (int what = 0; what <= 2; what++) {
                Check.due("message(" + m + ", " + what + ")", x.message(m, what), due[m][what]);
            }
            for (int what : new int[] {-1, 3, 4, MIN, MAX}) {
                Check.due("message(" + m + ", " + what + ")", x.message(m, what), -1);
            }
        }
    }

    private static void vertexNumbers() {
        Check.about("Promise 13: -1 without; -1 if there is none, or for another what");
        Counted x = new Counted();
        Check.due("vertex(0) before it is there", x.vertex(0, 0), -1);
        x.submit(2, 0, 1, 1);
        x.tick(2);
        x.submit(1, 0, 1, 1);
        x.submit(1, 0, 1, 1);
        x.tick(1);
        for (int v : new int[] {-1, 2, 90, MIN, MAX}) {
            for (int what = -1; what <= 5; what++) {
                Check.due("vertex(" + v + ", " + what + ")", x.vertex(v, what), -1);
            }
        }
        int[][] due = {{2, 1, 0, 0, -1}, {1, 1, 0, 1, 2}};
        for (int v = 0; v <= 1; v++) {
            for (int what = 0; what <= 4; what++) {
                Check.due("vertex(" + v + ", " + what + ")", x.vertex(v, what), due[v][what]);
            }
            for (int what : new int[] {-1, 5, 6, MIN, MAX}) {
                Check.due("vertex(" + v + ", " + what + ")", x.vertex(v, what), -1);
            }
        }
    }

    private static void nodeNumbers() {
        Check.about("Promise 14: -1 for another what");
        Counted x = new Counted();
        x.crash(1);
        x.corrupt(2);
        for (int node = 0; node < 4; node++) {
            for (int what : new int[] {-1, 9, 10, MIN, MAX}) {
                Check.due("node(" + node + ", " + what + ")", x.node(node, what), -1);
            }
            for (int what = 1; what <= 8; what++) {
                Check.due("node(" + node + ", " + what + ")", x.node(node, what), 0);
            }
        }
        int[] states = {1, 0, 2, 1};
        for (int node = 0; node < 4; node++) {
            Check.due("node(" + node + ", 0)", x.node(node, 0), states[node]);
        }
    }

    private static void dagNumbers() {
        Check.about("Promise 15: the vertex of an author and a round in a node's DAG; -1 if there is none such");
        Counted x = new Counted();
        Check.due("dag before anything is there", x.dag(0, 0, 1), -1);
        Scenes.fourteenRounds(x);
        for (int author = 0; author < 4; author++) {
            int first = x.dag(2, author, 1);
            int last = x.dag(2, author, 14);
            Check.due("author of the first", x.vertex(first, 0), author);
            Check.due("round of the first", x.vertex(first, 1), 1);
            Check.due("author of the last", x.vertex(last, 0), author);
            Check.due("round of the last", x.vertex(last, 1), 14);
            for (int round : new int[] {0, -1, 15, 16, MIN, MAX}) {
                Check.due("dag of round " + round, x.dag(2, author, round), -1);
            }
        }
        for (int author : new int[] {-1, 4, 5, MIN, MAX}) {
            for (int round : new int[] {0, 1, 2, 14, 15}) {
                Check.due("dag of author " + author, x.dag(2, author, round), -1);
            }
        }
    }

    private static void atNumbers() {
        Check.about("Promise 16: the transfer that has a POSITION in a node; -1 if there is none");
        Counted x = new Counted();
        Check.due("at(0) before anything is done", x.at(0, 0), -1);
        Scenes.fortyTransfers(x);
        Scenes.fourteenRounds(x);
        Check.due("positions", x.node(2, 6), 40);
        boolean[] seen = new boolean[40];
        for (int position = 0; position < 40; position++) {
            int transfer = x.at(2, position);
            Check.yes("at(" + position + ") is new", transfer >= 0 && transfer < 40 && !seen[transfer]);
            seen[Math.floorMod(transfer, 40)] = true;
        }
        for (int position : new int[] {-1, 40, 41, MIN, MAX}) {
            Check.due("at(" + position + ")", x.at(2, position), -1);
        }
        Counted y = new Counted();
        y.submit(0, 0, 1, 1);
        y.submit(0, 0, 1, 1);
        Scenes.fourteenRounds(y);
        Check.due("the last", y.at(3, 1), 1);
        Check.due("behind the last", y.at(3, 2), -1);
    }

    private static void balanceNumbers() {
        Check.about("Promise 17: (while it is down: 0); -1 if there is no such account");
        Counted x = new Counted();
        x.crash(1);
        x.corrupt(2);
        int[] due = {100, 0, 100, 100};
        for (int node = 0; node < 4; node++) {
            for (int account = 0; account < 4; account++) {
                Check.due("balance(" + node + ", " + account + ")", x.balance(node, account), due[node]);
            }
            for (int account : new int[] {-1, 4, 5, MIN, MAX}) {
                Check.due("balance(" + node + ", " + account + ")", x.balance(node, account), -1);
            }
        }
        x.restart(1);
        Check.due("up again", x.balance(1, 3), 100);
    }
}
