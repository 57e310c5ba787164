import java.util.List;
import java.util.Map;
import java.util.Random;
import java.util.TreeMap;

/**
 * Long mixed runs, the same ones each time, answered by the program as by the model. Several objects play each run side
 * by side and are asked different things on the way, for none of them may be asked beyond its 512 calls.
 */
public final class ModelTest {
    private static final int RUNS = 1200;
    private static final int TWINS = 8;
    private static final int CALLS = 512;
    /** Of the calls of an object so many at most are kept for asking, .. */
    private static final int QUESTIONS = 160;
    /** .. but fewer where the board is to be filled. */
    private static final int QUESTIONS_TO_TALKER = 20;

    /** What the runs must have met, else they prove little. */
    private static final List<String> RARE = List.of(
        "account emptied", "advance by the timer", "cut at a transfer", "cut at a vertex",
        "cut at echo", "cut at ready by echoes", "cut at ready by readies", "leader committed by a later one",
        "leader skipped, not there", "leader skipped, there but not reached", "pump with a full board",
        "ready by readies", "several ripe vertices", "transfer moved", "transfer not covered",
        "transfer with a position already", "vertex not made, ninety are there");

    private static final int PUMP = 0;
    private static final int DELIVER = 1;
    private static final int TICK = 2;
    private static final int SUBMIT = 3;
    private static final int FORGE = 4;
    private static final int SEND = 5;

    /** How a run mixes its calls: in a hundred so many pump, deliver, tick, submit, forge, send; the rest breaks. */
    private static final int[][] STYLES = {
        {78, 2, 10, 10, 0, 0}, // all goes well
        {58, 2, 28, 8, 0, 2}, // one node lags, and timers run out
        {60, 8, 12, 8, 2, 4}, // small steps and many crashes
        {48, 2, 12, 6, 26, 5}, // a forger
        {40, 36, 10, 8, 0, 2}, // messages out of order
        {92, 0, 6, 2, 0, 0}, // a talker, who is silent at first ..
        {3, 1, 1, 1, 1, 92}, // .. and then fills the board, ..
        {35, 20, 15, 5, 5, 5}, // .. which is full then
    };
    private static final int FORGER = 3;
    private static final int OUT_OF_ORDER = 4;
    private static final int TALKER = 5;
    private static final int TALK_FROM = 130;
    private static final int FULL = 800;

    private final Random random;
    private final Counted[] twins = new Counted[TWINS];
    private final Model model;
    private final int run;
    private final int style;
    private final int laggard;

    private ModelTest(int run, Map<String, Integer> seen) {
        this.run = run;
        random = new Random(run);
        model = new Model(seen);
        style = run % (TALKER + 1);
        laggard = random.nextInt(4);
        for (int i = 0; i < TWINS; i++) {
            twins[i] = new Counted();
        }
    }

    private interface Call {
        int of(Counted x);
    }

    public static void main(String[] args) {
        Map<String, Integer> seen = new TreeMap<>();
        for (int run = 0; run < RUNS && Check.wrong() == 0; run++) {
            new ModelTest(run, seen).runCalls();
        }
        for (String rare : RARE) {
            Check.yes("the runs met: " + rare, seen.containsKey(rare));
        }
        System.out.println(seen);
        Check.end();
    }

    private void runCalls() {
        int questions = random.nextInt((style == TALKER ? QUESTIONS_TO_TALKER : QUESTIONS) + 1);
        int steps = CALLS - questions;
        for (int step = 0; step < steps && Check.wrong() == 0; step++) {
            oneCall(step);
            boolean mayAsk = twins[0].callsLeft() >= steps - step;
            if (mayAsk && chance(100 * questions / (2 * steps))) {
                ask(1);
            }
        }
        ask(questions);
    }

    /** All do it, and answer as the model does. */
    private void same(String call, Call made, Check.Call want) {
        int due = Check.answer(want);
        for (Counted x : twins) {
            Check.due("run " + run + ": " + call, Check.answer(() -> made.of(x)), due);
        }
    }

    /** Each is asked so many things, as far as it may be. */
    private void ask(int most) {
        for (Counted x : twins) {
            int questions = Math.min(most, x.callsLeft());
            for (int i = 0; i < questions && Check.wrong() == 0; i++) {
                askOne(x);
            }
        }
    }

    private void answers(Counted x, String question, Call asked, Check.Call want) {
        Check.due("run " + run + ": " + question, Check.answer(() -> asked.of(x)), Check.answer(want));
    }

    private boolean chance(int percent) {
        return random.nextInt(100) < percent;
    }

    private int anyNode() {
        return chance(1) ? random.nextInt(8) - 2 : random.nextInt(4);
    }

    private int near(int count) {
        return chance(4) ? random.nextInt(count + 6) - 3 : random.nextInt(Math.max(1, count));
    }

    private void oneCall(int call) {
        if ((style == FORGER && call == 40 + run % 60) || (style == TALKER && call == TALK_FROM)) {
            corruptOne(laggard);
            return;
        }
        int[] weights = STYLES[styleAt(call)];
        int roll = random.nextInt(100);
        int kind = 0;
        while (kind < weights.length && roll >= weights[kind]) {
            roll -= weights[kind];
            kind++;
        }
        switch (kind) {
            case PUMP -> pumpSome(call);
            case DELIVER -> deliverSome(call);
            case TICK -> tickSome();
            case SUBMIT -> submitSome();
            case FORGE -> forgeSome();
            case SEND -> sendSome();
            default -> breakSome();
        }
    }

    private int styleAt(int call) {
        if (style != TALKER || call <= TALK_FROM) {
            return style;
        }
        return model.messages() < FULL ? TALKER + 1 : TALKER + 2;
    }

    private void pumpSome(int call) {
        int node = anyNode();
        if (node == laggard && (style == 1 && chance(85) || style == OUT_OF_ORDER && call < 300)) {
            return;
        }
        if (style == TALKER && call < TALK_FROM) {
            pumpAll(call % 4);
            return;
        }
        int n = chance(2) ? random.nextInt(54) - 1 : style == 2 ? 1 + random.nextInt(12) : 1 + random.nextInt(50);
        same("pump(" + node + ", " + n + ")", x -> x.pump(node, n), () -> model.pump(node, n));
    }

    private void pumpAll(int node) {
        same("pump(" + node + ", 50)", x -> x.pump(node, 50), () -> model.pump(node, 50));
    }

    private void deliverSome(int call) {
        int node = style == OUT_OF_ORDER && chance(80) ? laggard : anyNode();
        int m = chance(30) ? model.messages() - 1 - random.nextInt(30) : near(model.messages());
        if (style == OUT_OF_ORDER && call < 300 && model.message(m, 0) != 2) {
            return;
        }
        same("deliver(" + m + ", " + node + ")",
            x -> Check.bit(x.deliver(m, node)), () -> Check.bit(model.deliver(m, node)));
    }

    private void tickSome() {
        int node = anyNode();
        same("tick(" + node + ")", x -> Check.bit(x.tick(node)), () -> Check.bit(model.tick(node)));
    }

    private void submitSome() {
        int node = anyNode();
        int from = chance(3) ? random.nextInt(8) - 2 : random.nextInt(4);
        int to = chance(3) ? random.nextInt(8) - 2 : random.nextInt(4);
        int amount = chance(5) ? List.of(0, 1, 1000, 1001, -1, 100).get(random.nextInt(6))
            : 10 * (1 + random.nextInt(15));
        same("submit(" + node + ", " + from + ", " + to + ", " + amount + ")",
            x -> x.submit(node, from, to, amount), () -> model.submit(node, from, to, amount));
    }

    private void forgeSome() {
        int round = chance(3) ? random.nextInt(20) - 2 : 1 + random.nextInt(14);
        int parents = round == 1 && chance(90) ? 0
            : List.of(7, 11, 13, 14, 15, 3, 0, 16, -1).get(random.nextInt(chance(5) ? 9 : 5));
        int a = near(model.transferCount());
        int b = chance(30) ? a : near(model.transferCount()) - random.nextInt(2);
        same("forge(" + round + ", " + parents + ", " + a + ", " + b + ")",
            x -> x.forge(round, parents, a, b), () -> model.forge(round, parents, a, b));
    }

    private void sendSome() {
        int kind = chance(3) ? random.nextInt(7) - 2 : random.nextInt(3);
        int v = near(model.vertexCount());
        same("send(" + kind + ", " + v + ")", x -> x.send(kind, v), () -> model.send(kind, v));
    }

    private void breakSome() {
        int node = anyNode();
        int roll = random.nextInt(100);
        if (roll < 10) {
            same("crash(" + node + ")", x -> Check.bit(x.crash(node)), () -> Check.bit(model.crash(node)));
        } else if (roll < 25 || roll >= 60) {
            same("restart(" + node + ")", x -> Check.bit(x.restart(node)), () -> Check.bit(model.restart(node)));
        } else if (roll < 45) {
            int k = random.nextInt(12) - 1;
            same("cut(" + node + ", " + k + ")",
                x -> Check.bit(x.cut(node, k)), () -> Check.bit(model.cut(node, k)));
        } else if (roll < 50) {
            corruptOne(node);
        }
    }

    private void corruptOne(int node) {
        same("corrupt(" + node + ")", x -> Check.bit(x.corrupt(node)), () -> Check.bit(model.corrupt(node)));
    }

    private void askOne(Counted x) {
        int node = anyNode();
        switch (random.nextInt(6)) {
            case 0 -> {
                int m = near(model.messages());
                int what = chance(2) ? random.nextInt(5) - 1 : random.nextInt(3);
                answers(x, "message(" + m + ", " + what + ")", y -> y.message(m, what), () -> model.message(m, what));
            }
            case 1 -> {
                int v = near(model.vertexCount());
                int what = chance(2) ? random.nextInt(7) - 1 : random.nextInt(5);
                answers(x, "vertex(" + v + ", " + what + ")", y -> y.vertex(v, what), () -> model.vertex(v, what));
            }
            case 2 -> {
                int what = random.nextInt(11) - 1;
                answers(x, "node(" + node + ", " + what + ")", y -> y.node(node, what), () -> model.node(node, what));
            }
            case 3 -> {
                int author = chance(2) ? random.nextInt(8) - 2 : random.nextInt(4);
                int round = random.nextInt(18) - 1;
                answers(x, "dag(" + node + ", " + author + ", " + round + ")",
                    y -> y.dag(node, author, round), () -> model.dag(node, author, round));
            }
            case 4 -> {
                int position = near(model.transferCount());
                answers(x, "at(" + node + ", " + position + ")",
                    y -> y.at(node, position), () -> model.at(node, position));
            }
            default -> {
                int account = chance(5) ? random.nextInt(8) - 2 : random.nextInt(4);
                answers(x, "balance(" + node + ", " + account + ")",
                    y -> y.balance(node, account), () -> model.balance(node, account));
            }
        }
    }
}
