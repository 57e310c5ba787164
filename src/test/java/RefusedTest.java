/** "What is thrown is looked at before what is refused. A call that throws or is refused changes nothing." */
public final class RefusedTest {
    private static final int MIN = Integer.MIN_VALUE;
    private static final int MAX = Integer.MAX_VALUE;
    private static final int NO = 0;
    private static final int NONE = -1;
    private static final int[] NO_NODES = {-1, 4, MIN, MAX};

    private final String place;
    private final Scene scene;
    private final Snapshot before;
    private final Snapshot later;

    private RefusedTest(String place, Scene scene) {
        this.place = place;
        this.scene = scene;
        before = new Snapshot(scene);
        later = new Snapshot(scene.then(Scenes::goOn));
    }

    private interface Made {
        int answer(Counted x);
    }

    public static void main(String[] args) {
        RefusedTest all = new RefusedTest("while all goes on", Scenes::underWay);
        RefusedTest faulty = new RefusedTest("with a faulty node", Scenes::underWayWithFaulty);
        RefusedTest forty = new RefusedTest("with forty transfers", Scenes::fortyTransfers);
        RefusedTest ninety = new RefusedTest("with ninety vertices", Scenes::ninetyVertices);
        RefusedTest full = new RefusedTest("with a full board", Scenes::fullBoard);
        noNodeIsThrownFirst(new RefusedTest[] {all, faulty, forty, ninety, full});
        notUpIsThrownBeforeRefused(faulty, full);
        notUpIsThrownBeforeForty();
        submitChangesNothing(all, forty);
        deliverChangesNothing(faulty, full);
        pumpChangesNothing(all, full);
        tickChangesNothing(faulty, full);
        crashChangesNothing(faulty);
        restartChangesNothing(faulty);
        cutChangesNothing(faulty);
        corruptChangesNothing(faulty);
        forgeChangesNothing(all, faulty, ninety, full);
        sendChangesNothing(all, faulty, full);
        askingChangesNothing(faulty);
        Check.end();
    }

    /** The call is answered as is due, and neither what can be asked nor what comes after tells that it was made. */
    private void still(String call, int due, Made made) {
        String told = call + " " + place;
        Check.due(told, Check.answer(() -> made.answer(scene.played())), due);
        unchanged(told, x -> Check.answer(() -> made.answer(x)));
    }

    private void unchanged(String told, Scene calls) {
        Scene withCalls = scene.then(calls);
        new Snapshot(withCalls).mustBe("after " + told, before);
        new Snapshot(withCalls.then(Scenes::goOn)).mustBe("going on after " + told, later);
    }

    private static void noNodeIsThrownFirst(RefusedTest[] places) {
        Check.about("No such node: IndexOutOfBoundsException; thrown before refused");
        for (RefusedTest p : places) {
            for (int none : NO_NODES) {
                Counted x = p.scene.played();
                Check.noSuchNode("submit", () -> x.submit(none, 0, 1, 1));
                Check.noSuchNode("submit, refused", () -> x.submit(none, 4, 4, 0));
                Check.noSuchNode("deliver", () -> Check.bit(x.deliver(0, none)));
                Check.noSuchNode("deliver, refused", () -> Check.bit(x.deliver(-1, none)));
                Check.noSuchNode("pump", () -> x.pump(none, 1));
                Check.noSuchNode("pump, refused", () -> x.pump(none, 51));
                Check.noSuchNode("tick", () -> Check.bit(x.tick(none)));
                Check.noSuchNode("crash", () -> Check.bit(x.crash(none)));
                Check.noSuchNode("restart", () -> Check.bit(x.restart(none)));
                Check.noSuchNode("cut", () -> Check.bit(x.cut(none, 0)));
                Check.noSuchNode("cut, refused", () -> Check.bit(x.cut(none, -1)));
                Check.noSuchNode("corrupt", () -> Check.bit(x.corrupt(none)));
                Check.noSuchNode("node", () -> x.node(none, 0));
                Check.noSuchNode("node, of nothing", () -> x.node(none, 9));
                Check.noSuchNode("dag", () -> x.dag(none, 0, 1));
                Check.noSuchNode("dag, of nothing", () -> x.dag(none, 4, 15));
                Check.noSuchNode("at", () -> x.at(none, 0));
                Check.noSuchNode("at, of nothing", () -> x.at(none, -1));
                Check.noSuchNode("balance", () -> x.balance(none, 0));
                Check.noSuchNode("balance, of nothing", () -> x.balance(none, 4));
            }
        }
        Check.about("A call that throws changes nothing");
        for (RefusedTest p : places) {
            for (int none : new int[] {-1, 4}) {
                p.still("submit(" + none + ")", Check.NO_SUCH_NODE, x -> x.submit(none, 0, 1, 1));
                p.still("deliver(" + none + ")", Check.NO_SUCH_NODE, x -> Check.bit(x.deliver(0, none)));
                p.still("pump(" + none + ")", Check.NO_SUCH_NODE, x -> x.pump(none, 1));
                p.still("tick(" + none + ")", Check.NO_SUCH_NODE, x -> Check.bit(x.tick(none)));
                p.still("crash(" + none + ")", Check.NO_SUCH_NODE, x -> Check.bit(x.crash(none)));
                p.still("restart(" + none + ")", Check.NO_SUCH_NODE, x -> Check.bit(x.restart(none)));
                p.still("cut(" + none + ")", Check.NO_SUCH_NODE, x -> Check.bit(x.cut(none, 0)));
                p.still("corrupt(" + none + ")", Check.NO_SUCH_NODE, x -> Check.bit(x.corrupt(none)));
            }
        }
    }

    private static void notUpIsThrownBeforeRefused(RefusedTest faulty, RefusedTest full) {
        Check.about("IllegalStateException: the node is down or faulty; thrown before refused");
        for (int node = 2; node <= 3; node++) {
            int notUp = node;
            faulty.still("submit(" + notUp + ")", Check.NOT_UP, x -> x.submit(notUp, 0, 1, 1));
            faulty.still("submit(" + notUp + "), no account", Check.NOT_UP, x -> x.submit(notUp, 4, 1, 1));
            faulty.still("submit(" + notUp + "), one account", Check.NOT_UP, x -> x.submit(notUp, 0, 0, 1));
            faulty.still("submit(" + notUp + "), amount 0", Check.NOT_UP, x -> x.submit(notUp, 0, 1, 0));
            faulty.still("submit(" + notUp + "), amount 1001", Check.NOT_UP, x -> x.submit(notUp, 0, 1, 1001));
            faulty.still("pump(" + notUp + ", 1)", Check.NOT_UP, x -> x.pump(notUp, 1));
            faulty.still("pump(" + notUp + ", 0)", Check.NOT_UP, x -> x.pump(notUp, 0));
            faulty.still("pump(" + notUp + ", 51)", Check.NOT_UP, x -> x.pump(notUp, 51));
        }
        full.still("submit to one that is down", Check.NOT_UP, x -> x.submit(1, 0, 1, 1));
        full.still("submit to a faulty one", Check.NOT_UP, x -> x.submit(3, 0, 1, 1));
        full.still("pump of one that is down", Check.NOT_UP, x -> x.pump(1, 1));
        full.still("pump of a faulty one", Check.NOT_UP, x -> x.pump(3, 1));
    }

    private static void notUpIsThrownBeforeForty() {
        Check.about("IllegalStateException: the node is down or faulty; thrown before refused");
        Scene forty = Scenes::fortyTransfers;
        RefusedTest fallen = new RefusedTest("with forty transfers, not up", forty.then(x -> {
            x.crash(1);
            x.corrupt(2);
        }));
        fallen.still("submit to one that is down", Check.NOT_UP, x -> x.submit(1, 0, 1, 1));
        fallen.still("submit to a faulty one", Check.NOT_UP, x -> x.submit(2, 0, 1, 1));
    }

    private static void submitChangesNothing(RefusedTest all, RefusedTest forty) {
        Check.about("Promise 2: -1 (refused), and nothing changes");
        int[][] wrong = {
            {-1, 1, 1}, {4, 1, 1}, {0, -1, 1}, {0, 4, 1}, {MIN, 1, 1}, {0, MAX, 1}, {0, 0, 1}, {3, 3, 1}, {4, 4, 1},
            {0, 1, 0}, {0, 1, -1}, {0, 1, 1001}, {0, 1, MIN}, {0, 1, MAX}};
        for (int[] w : wrong) {
            String call = ", " + w[0] + ", " + w[1] + ", " + w[2] + ")";
            all.still("submit(0" + call, NONE, x -> x.submit(0, w[0], w[1], w[2]));
            all.still("submit(1, which is to be cut" + call, NONE, x -> x.submit(1, w[0], w[1], w[2]));
        }
        for (int i = 0; i < 4; i++) {
            int node = i;
            forty.still("submit(" + node + ")", NONE, x -> x.submit(node, 0, 1, 1));
        }
        RefusedTest aboutToFall = new RefusedTest("with forty transfers, about to fall",
            forty.scene.then(x -> x.cut(0, 0)));
        aboutToFall.still("submit", NONE, x -> x.submit(0, 0, 1, 1));
    }

    private static void deliverChangesNothing(RefusedTest faulty, RefusedTest full) {
        Check.about("Promise 3: false (refused), and nothing changes");
        for (int m : new int[] {-1, 800, MIN, MAX}) {
            faulty.still("deliver(" + m + ", 0)", NO, x -> Check.bit(x.deliver(m, 0)));
        }
        RefusedTest fresh = new RefusedTest("on an empty board", x -> { });
        fresh.still("deliver(0, 0)", NO, x -> Check.bit(x.deliver(0, 0)));
        RefusedTest one = new RefusedTest("with one message", x -> x.tick(0));
        one.still("deliver(1, 1)", NO, x -> Check.bit(x.deliver(1, 1)));
        faulty.still("deliver to one that is down", NO, x -> Check.bit(x.deliver(0, 2)));
        faulty.still("deliver to a faulty one", NO, x -> Check.bit(x.deliver(0, 3)));
        full.still("deliver", NO, x -> Check.bit(x.deliver(0, 0)));
        full.still("deliver of the last", NO, x -> Check.bit(x.deliver(799, 0)));
    }

    private static void pumpChangesNothing(RefusedTest all, RefusedTest full) {
        Check.about("Promise 4: -1 (refused) if n is not 1 .. 50, and nothing changes");
        for (int n : new int[] {0, -1, 51, MIN, MAX}) {
            all.still("pump(0, " + n + ")", NONE, x -> x.pump(0, n));
            full.still("pump(0, " + n + ")", NONE, x -> x.pump(0, n));
        }
        Check.about("THE BOARD: pump() takes none");
        full.still("pump(0, 1)", 0, x -> x.pump(0, 1));
        full.still("pump(0, 50)", 0, x -> x.pump(0, 50));
    }

    private static void tickChangesNothing(RefusedTest faulty, RefusedTest full) {
        Check.about("Promise 5: false (refused), and nothing changes");
        faulty.still("tick of one that is down", NO, x -> Check.bit(x.tick(2)));
        faulty.still("tick of a faulty one", NO, x -> Check.bit(x.tick(3)));
        full.still("tick", NO, x -> Check.bit(x.tick(0)));
        full.still("tick of one that is to be cut", NO, x -> Check.bit(x.tick(2)));
    }

    private static void crashChangesNothing(RefusedTest faulty) {
        Check.about("Promise 6: false (refused), and nothing changes");
        faulty.still("crash of one that is down", NO, x -> Check.bit(x.crash(2)));
        faulty.still("crash of a faulty one", NO, x -> Check.bit(x.crash(3)));
    }

    private static void restartChangesNothing(RefusedTest faulty) {
        Check.about("Promise 7: false (refused), and nothing changes");
        faulty.still("restart of one that is up", NO, x -> Check.bit(x.restart(0)));
        faulty.still("restart of one that is to be cut", NO, x -> Check.bit(x.restart(1)));
        faulty.still("restart of a faulty one", NO, x -> Check.bit(x.restart(3)));
        RefusedTest fallen = new RefusedTest("where the faulty one was down", x -> {
            Scenes.underWay(x);
            x.corrupt(2);
        });
        fallen.still("restart", NO, x -> Check.bit(x.restart(2)));
    }

    private static void cutChangesNothing(RefusedTest faulty) {
        Check.about("Promise 8: false (refused), and nothing changes");
        for (int k : new int[] {-1, MIN}) {
            faulty.still("cut(0, " + k + ")", NO, x -> Check.bit(x.cut(0, k)));
            faulty.still("cut in place of another, " + k, NO, x -> Check.bit(x.cut(1, k)));
        }
        faulty.still("cut of one that is down", NO, x -> Check.bit(x.cut(2, 0)));
        faulty.still("cut of a faulty one", NO, x -> Check.bit(x.cut(3, 0)));
    }

    private static void corruptChangesNothing(RefusedTest faulty) {
        Check.about("Promise 9: false (refused) if one is, and nothing changes");
        for (int i = 0; i < 4; i++) {
            int node = i;
            faulty.still("corrupt(" + node + ")", NO, x -> Check.bit(x.corrupt(node)));
        }
    }

    private static void forgeChangesNothing(RefusedTest all, RefusedTest faulty, RefusedTest ninety, RefusedTest full) {
        Check.about("Promise 10: -1 (refused), and nothing changes");
        all.still("forge where none is faulty", NONE, x -> x.forge(1, 0, -1, -1));
        // Seven transfers are there.
        int[][] wrong = {
            {0, 0, -1, -1}, {15, 7, -1, -1}, {-1, 7, -1, -1}, {MIN, 7, -1, -1}, {MAX, 7, -1, -1},
            {2, -1, -1, -1}, {2, 16, -1, -1}, {2, MIN, -1, -1}, {2, MAX, -1, -1},
            {2, 7, -2, -1}, {2, 7, 7, -1}, {2, 7, MIN, -1}, {2, 7, MAX, -1},
            {2, 7, -1, -2}, {2, 7, -1, 7}, {2, 7, -1, MIN}, {2, 7, -1, MAX}};
        for (int[] w : wrong) {
            faulty.still("forge(" + w[0] + ", " + w[1] + ", " + w[2] + ", " + w[3] + ")", NONE,
                x -> x.forge(w[0], w[1], w[2], w[3]));
        }
        ninety.still("forge", NONE, x -> x.forge(1, 0, -1, -1));
        full.still("forge", NONE, x -> x.forge(1, 0, -1, -1));
    }

    private static void sendChangesNothing(RefusedTest all, RefusedTest faulty, RefusedTest full) {
        Check.about("Promise 11: -1 (refused), and nothing changes");
        all.still("send where none is faulty", NONE, x -> x.send(0, 0));
        for (int kind : new int[] {-1, 3, MIN, MAX}) {
            faulty.still("send(" + kind + ", 0)", NONE, x -> x.send(kind, 0));
        }
        for (int vertex : new int[] {-1, 90, MIN, MAX}) {
            faulty.still("send(0, " + vertex + ")", NONE, x -> x.send(0, vertex));
        }
        RefusedTest none = new RefusedTest("without vertices", x -> x.corrupt(0));
        none.still("send(0, 0)", NONE, x -> x.send(0, 0));
        RefusedTest one = new RefusedTest("with one vertex", x -> {
            x.tick(1);
            x.corrupt(0);
        });
        one.still("send(0, 1)", NONE, x -> x.send(0, 1));
        full.still("send", NONE, x -> x.send(0, 0));
    }

    private static void askingChangesNothing(RefusedTest faulty) {
        Check.about("Promises 12 to 17 tell of no change");
        int[] numbers = {-1, 0, 1, 3, 4, 9, 40, MIN, MAX};
        faulty.unchanged("asking", x -> {
            for (int i : numbers) {
                x.message(i, 0);
                x.message(0, i);
                x.vertex(i, 0);
                x.vertex(0, i);
                for (int node = 0; node < 4; node++) {
                    x.node(node, i);
                    x.dag(node, i, 1);
                    x.dag(node, 0, i);
                    x.at(node, i);
                    x.balance(node, i);
                }
            }
        });
    }
}
