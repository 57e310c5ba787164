import java.util.Random;

/**
 * Any arguments in any state: a call throws what the document says for it and nothing else, and it ends. After the
 * 512th call the document promises nothing, but LANGUAGE.md still does: no call throws by itself.
 */
public final class AnyArgumentsTest {
    private static final int RUNS = 200;
    private static final int CALLS = 1500;
    private static final int PROMISED = 512;
    private static final int[] ODD = {
        Integer.MIN_VALUE, Integer.MIN_VALUE + 1, -801, -91, -41, -16, -5, -4, -3, -2, -1, 4, 5, 9, 15, 16, 31, 32, 33,
        39, 40, 41, 50, 51, 63, 64, 65, 89, 90, 91, 799, 800, 801, 802, 803, 1000, 1001, 1 << 30,
        Integer.MAX_VALUE - 1, Integer.MAX_VALUE};

    private enum Call {
        SUBMIT, PUMP, DELIVER, TICK, CRASH, RESTART, CUT, CORRUPT, FORGE, SEND, MESSAGE, VERTEX, NODE, DAG, AT, BALANCE
    }

    private final DagLedger x = new DagLedger();
    private final Random random;
    private final int oddPercent;
    private int node;
    private int calls = 0;

    private AnyArgumentsTest(int run) {
        random = new Random(run);
        oddPercent = run % 2 == 0 ? 2 : 20;
    }

    public static void main(String[] args) {
        Check.about("No such node: IndexOutOfBoundsException");
        for (int run = 0; run < RUNS; run++) {
            AnyArgumentsTest test = new AnyArgumentsTest(run);
            for (int call = 0; call < CALLS; call++) {
                test.oneCall();
            }
        }
        Check.end();
    }

    private int below(int usual) {
        return random.nextInt(100) < oddPercent ? ODD[random.nextInt(ODD.length)] : random.nextInt(usual);
    }

    /** Every second one is a pump, so that nodes come far; crashes and the faulty node are rare. */
    private Call anyCall() {
        Call call = Call.values()[random.nextInt(Call.values().length)];
        boolean rare = call == Call.CRASH || call == Call.CORRUPT || call == Call.CUT;
        return random.nextInt(2) == 0 || rare && random.nextInt(10) != 0 ? Call.PUMP : call;
    }

    private void oneCall() {
        node = below(4);
        switch (anyCall()) {
            case SUBMIT -> submitOrPump("submit", () -> x.submit(node, below(4), below(4), 1 + below(150)));
            case PUMP -> submitOrPump("pump", () -> x.pump(node, 1 + below(50)));
            case DELIVER -> ofNode("deliver", () -> Check.bit(x.deliver(below(800), node)));
            case TICK -> ofNode("tick", () -> Check.bit(x.tick(node)));
            case CRASH -> ofNode("crash", () -> Check.bit(x.crash(node)));
            case RESTART -> ofNode("restart", () -> Check.bit(x.restart(node)));
            case CUT -> ofNode("cut", () -> Check.bit(x.cut(node, below(60))));
            case CORRUPT -> ofNode("corrupt", () -> Check.bit(x.corrupt(node)));
            case FORGE -> ofNone("forge", () -> x.forge(1 + below(14), below(16), below(40), below(40)));
            case SEND -> ofNone("send", () -> x.send(below(3), below(90)));
            case MESSAGE -> ofNone("message", () -> x.message(below(800), below(3)));
            case VERTEX -> ofNone("vertex", () -> x.vertex(below(90), below(5)));
            case NODE -> ofNode("node", () -> x.node(node, below(9)));
            case DAG -> ofNode("dag", () -> x.dag(node, below(4), below(15)));
            case AT -> ofNode("at", () -> x.at(node, below(40)));
            default -> ofNode("balance", () -> x.balance(node, below(4)));
        }
    }

    private boolean isNode() {
        return node >= 0 && node < 4;
    }

    private void ofNone(String call, Check.Call made) {
        throwsOnly(call, 0, made);
    }

    private void ofNode(String call, Check.Call made) {
        throwsOnly(call + " of node " + node, isNode() ? 0 : Check.NO_SUCH_NODE, made);
    }

    private void submitOrPump(String call, Check.Call made) {
        boolean isUp = isNode() && asked(() -> x.node(node, 0)) == 1;
        throwsOnly(call + " of node " + node, isUp ? 0 : isNode() ? Check.NOT_UP : Check.NO_SUCH_NODE, made);
    }

    private int asked(Check.Call made) {
        calls++;
        return Check.answer(made);
    }

    private void throwsOnly(String call, int due, Check.Call made) {
        int answer = asked(made);
        if (calls <= PROMISED) {
            boolean isThrown = answer <= Check.NO_SUCH_NODE;
            Check.due(call + " throws", isThrown ? answer : 0, due);
        } else {
            Check.no(call + " throws by itself", answer == Check.OTHERWISE_THROWN);
        }
    }
}
