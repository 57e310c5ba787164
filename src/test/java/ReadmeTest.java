/** The examples of README.md, call by call. */
public final class ReadmeTest {
    public static void main(String[] args) {
        oneTransfer();
        faults();
        Check.end();
    }

    private static void oneTransfer() {
        Check.about("README: a transfer");
        Counted ledger = new Counted();
        ledger.submit(0, 0, 1, 30);
        for (int node = 0; node < 4; node++) {
            ledger.tick(node);
        }
        for (int sweep = 0; sweep < 10; sweep++) {
            for (int node = 0; node < 4; node++) {
                ledger.pump(node, 50);
            }
        }
        Check.due("at(3, 0)", ledger.at(3, 0), 0);
        Check.due("balance(3, 1)", ledger.balance(3, 1), 130);
    }

    private static void faults() {
        Check.about("README: faults");
        Counted ledger = new Counted();
        Check.yes("corrupt(3)", ledger.corrupt(3));
        Check.due("forge(1, 0, -1, -1)", ledger.forge(1, 0, -1, -1), 0);
        Check.due("forge(1, 0, -1, -1) again", ledger.forge(1, 0, -1, -1), 1);
        Check.yes("cut(0, 1)", ledger.cut(0, 1));
        Check.due("submit(0, 0, 1, 30)", ledger.submit(0, 0, 1, 30), 0);
        Check.yes("tick(0)", ledger.tick(0));
        Check.due("node(0, 0)", ledger.node(0, 0), 0);
        Check.yes("restart(0)", ledger.restart(0));
        Check.due("node(0, 7)", ledger.node(0, 7), 1);
    }
}
