/** Compares answers with those that are due, and tells what is not as due. */
final class Check {
    private static final int SHOWN = 40;
    private static int wrong = 0;
    private static int looked = 0;

    private Check() {
    }

    interface Call {
        void run();
    }

    static void due(String call, long got, long want) {
        looked++;
        if (got != want) {
            tell(call + " answered " + got + ", due is " + want);
        }
    }

    static void yes(String call, boolean got) {
        due(call, got ? 1 : 0, 1);
    }

    static void no(String call, boolean got) {
        due(call, got ? 1 : 0, 0);
    }

    static void noSuchNode(String call, Call made) {
        thrown(call, made, "IndexOutOfBoundsException");
    }

    static void notUp(String call, Call made) {
        thrown(call, made, "IllegalStateException");
    }

    private static void thrown(String call, Call made, String want) {
        looked++;
        String got = "nothing";
        try {
            made.run();
        } catch (RuntimeException e) {
            got = e.getClass().getSimpleName();
        }
        if (!got.equals(want)) {
            tell(call + " threw " + got + ", due is " + want);
        }
    }

    static void tell(String text) {
        wrong++;
        if (wrong <= SHOWN) {
            System.out.println(text);
        }
    }

    static int wrong() {
        return wrong;
    }

    static void end() {
        System.out.println(looked + " answers looked at, " + wrong + " not as due");
        if (wrong != 0) {
            System.exit(1);
        }
    }
}
