/** Promises 1 to 12: runs of calls, right and wrong ones, on the class and on the model alike. */
public final class RandomRunsTest {
    private static final int N = ContractHouse.NONE;

    // Behind its 512th call an object may answer anything.
    private static final int MOST_CALLS = 512;
    private static final int CALLS_TO_COMPARE = 62;

    private long seed;
    private ContractHouse house;
    private Model model;
    private String story;
    private int calls;

    private RandomRunsTest(long seed) {
        this.seed = seed;
    }

    public static void main(String[] args) {
        Checks.watch();
        for (int run = 0; run < 500; run++) {
            new RandomRunsTest(run).mixedRun();
        }
        for (int run = 0; run < 60; run++) {
            new RandomRunsTest(1000000 + run).fullRun();
        }
        Checks.end();
    }

    /** Calls as they come, some of them wrong. */
    private void mixedRun() {
        begin();
        int length = 20 + below(200);
        for (int n = 0; n < length && calls < MOST_CALLS; n++) {
            anyCall();
            if (below(12) == 0) {
                compareExpression();
            }
        }
        compareExpression();
    }

    /** Large tables, all cells set, and expressions of up to six operands over them. */
    private void fullRun() {
        begin();
        for (int label = 0; label < 8; label++) {
            size(label, below(4) == 0 ? 1 + below(3) : 3);
        }
        for (int t = 0; t < 8; t++) {
            int[] l = risingLabels(below(5) == 0 ? below(4) : 3);
            table(l[0], l[1], l[2]);
            for (int cell = 0; cell < model.extent(t); cell++) {
                set(t, cell, cellValue());
            }
        }
        for (int round = 0; round < 3; round++) {
            clear();
            int many = 2 + below(5);
            for (int o = 0; o < many; o++) {
                operand(below(8));
            }
            int[] l = risingLabels(below(4));
            result(l[0], l[1], l[2]);
            compareExpression();
        }
    }

    private void begin() {
        house = new ContractHouse();
        model = new Model();
        story = "seed " + seed;
        calls = 0;
    }

    private void anyCall() {
        int[] l = below(6) == 0 ? anyLabels() : risingLabels(below(4));
        switch (below(14)) {
            case 0: size(below(11) - 1, below(6) - 1); break;
            case 1:
            case 2: table(l[0], l[1], l[2]); break;
            case 3:
            case 4:
            case 5:
            case 6: set(below(10) - 1, below(12) == 0 ? below(60) - 10 : below(9), cellValue()); break;
            case 7: extent(below(11) - 1); break;
            case 8: if (below(5) == 0) clear(); break;
            case 9:
            case 10:
            case 11: operand(below(10) - 1); break;
            case 12: result(l[0], l[1], l[2]); break;
            default: oneQuestion(); break;
        }
    }

    private void oneQuestion() {
        switch (below(4)) {
            case 0: cost(); break;
            case 1: step(below(8) - 1, below(6) - 1); break;
            case 2: value(below(31) - 2); break;
            default: about(below(6) - 1); break;
        }
    }

    /** Everything that can be asked of the expression, and the edges round it. */
    private void compareExpression() {
        if (calls > MOST_CALLS - CALLS_TO_COMPARE) {
            return;
        }
        cost();
        for (int what = 0; what < 4; what++) {
            about(what);
            for (int k = -1; k <= model.about(3); k++) {
                step(k, what);
            }
        }
        for (int i = -1; i <= 27; i++) {
            value(i);
        }
    }

    private void size(int label, int size) {
        compare("size(" + label + ", " + size + ")",
                Checks.outcome(() -> house.size(label, size)),
                Checks.outcome(() -> model.size(label, size)));
    }

    private void table(int a, int b, int c) {
        compare("table(" + a + ", " + b + ", " + c + ")",
                Checks.outcome(() -> house.table(a, b, c)),
                Checks.outcome(() -> model.table(a, b, c)));
    }

    private void set(int table, int cell, int v) {
        compare("set(" + table + ", " + cell + ", " + v + ")",
                Checks.outcome(() -> house.set(table, cell, v)),
                Checks.outcome(() -> model.set(table, cell, v)));
    }

    private void extent(int table) {
        compare("extent(" + table + ")",
                Checks.outcome(() -> house.extent(table)),
                Checks.outcome(() -> model.extent(table)));
    }

    private void clear() {
        compare("clear()",
                Checks.outcome(() -> house.clear()),
                Checks.outcome(() -> model.clear()));
    }

    private void operand(int table) {
        compare("operand(" + table + ")",
                Checks.outcome(() -> house.operand(table)),
                Checks.outcome(() -> model.operand(table)));
    }

    private void result(int a, int b, int c) {
        compare("result(" + a + ", " + b + ", " + c + ")",
                Checks.outcome(() -> house.result(a, b, c)),
                Checks.outcome(() -> model.result(a, b, c)));
    }

    private void cost() {
        compare("cost()",
                Checks.outcome(() -> house.cost()),
                Checks.outcome(() -> model.cost()));
    }

    private void step(int k, int what) {
        compare("step(" + k + ", " + what + ")",
                Checks.outcome(() -> house.step(k, what)),
                Checks.outcome(() -> model.step(k, what)));
    }

    private void value(int i) {
        compare("value(" + i + ")",
                Checks.outcome(() -> house.value(i)),
                Checks.outcome(() -> model.value(i)));
    }

    private void about(int what) {
        compare("about(" + what + ")",
                Checks.outcome(() -> house.about(what)),
                Checks.outcome(() -> model.about(what)));
    }

    private void compare(String call, String got, String want) {
        calls++;
        Checks.due(story + ", call " + calls + ", " + call, got, want);
    }

    private int cellValue() {
        return below(5) == 0 ? next() : below(9) - 4;
    }

    private int[] anyLabels() {
        return new int[] {below(11) - 2, below(11) - 2, below(11) - 2};
    }

    private int[] risingLabels(int many) {
        int[] l = {N, N, N};
        int found = 0;
        int from = 0;
        while (found < many) {
            int room = 8 - from - (many - found);
            l[found] = from + below(room + 1);
            from = l[found] + 1;
            found++;
        }
        return l;
    }

    private int below(int end) {
        return (next() >>> 8) % end;
    }

    private int next() {
        seed = seed * 6364136223846793005L + 1442695040888963407L;
        return (int) (seed >>> 32);
    }
}
