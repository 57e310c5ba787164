/** Compares answers with those that are due, and tells what is not as due. */
final class Check {
    /** What stands for an answer if the call throws; no call answers these. */
    static final int NO_SUCH_NODE = -1001;
    static final int NOT_UP = -1002;
    static final int OTHERWISE_THROWN = -1003;

    private static final int SHOWN = 40;
    private static String sentence = "";
    private static int wrong = 0;
    private static int looked = 0;

    private Check() {
    }

    interface Call {
        int answer();
    }

    /** The words of the document for which the answers from here on are looked at. */
    static void about(String words) {
        sentence = "[" + words + "] ";
    }

    static void due(String call, long got, long want) {
        looked++;
        if (got != want) {
            tell(call + " answered " + got + ", due is " + want);
        }
    }

    static void yes(String call, boolean got) {
        due(call, bit(got), 1);
    }

    static void no(String call, boolean got) {
        due(call, bit(got), 0);
    }

    static void noSuchNode(String call, Call made) {
        due(call, answer(made), NO_SUCH_NODE);
    }

    static void notUp(String call, Call made) {
        due(call, answer(made), NOT_UP);
    }

    static int bit(boolean answer) {
        return answer ? 1 : 0;
    }

    static int answer(Call made) {
        try {
            return made.answer();
        } catch (RuntimeException e) {
            if (e.getClass() == IndexOutOfBoundsException.class) {
                return NO_SUCH_NODE;
            }
            return e.getClass() == IllegalStateException.class ? NOT_UP : OTHERWISE_THROWN;
        }
    }

    static void tell(String text) {
        wrong++;
        if (wrong <= SHOWN) {
            System.out.println(sentence + text);
        }
    }

    static int wrong() {
        return wrong;
    }

    static void end() {
        System.out.println(looked + " answers looked at, " + wrong + " not as due");
        if (wrong != 0) {
            System.exit(1);
        }
    }
}
