import java.util.Arrays;

/** Objects to begin a test with, and calls with a list where the face takes three labels. */
final class Houses {
    static final int N = ContractHouse.NONE;
    static final int MIN = Integer.MIN_VALUE;
    static final int MAX = Integer.MAX_VALUE;

    /** The labels of the operands of ofDearestPlan. */
    static final int[][] DEAREST = {
        {2, 3, 4}, {0, 2, 5}, {4, 5, 6}, {1, 3, 5}, {1, 2, 6}, {0, 1, 4},
    };

    private Houses() {}

    /** A new object; the labels from 0 on have these sizes, the others 2. */
    static ContractHouse ofSizes(int... sizes) {
        ContractHouse x = new ContractHouse();
        for (int label = 0; label < sizes.length; label++) {
            x.size(label, sizes[label]);
        }
        return x;
    }

    static ContractHouse ofSize(int size) {
        return ofSizes(size, size, size, size, size, size, size, size);
    }

    /** A new object with so many tables of no labels, each of one cell. */
    static ContractHouse ofTables(int tables) {
        ContractHouse x = new ContractHouse();
        for (int t = 0; t < tables; t++) {
            x.table(N, N, N);
        }
        return x;
    }

    /** Table 0 has labels 0 (2 indexes) and 1 (3), and the cells 1 to 6. */
    static ContractHouse of2x3() {
        ContractHouse x = ofSizes(2, 3);
        table(x, 0, 1);
        fill(x, 0, 1, 2, 3, 4, 5, 6);
        return x;
    }

    /**
     * The dearest expression that a long search over six operands found: its plan makes the largest
     * tables on the way, too.
     */
    static ContractHouse ofDearestPlan() {
        ContractHouse x = ofSize(3);
        for (int[] labels : DEAREST) {
            x.operand(table(x, labels));
        }
        result(x, 0, 3, 6);
        return x;
    }

    static int table(ContractHouse x, int... labels) {
        int[] l = threeOf(labels);
        return x.table(l[0], l[1], l[2]);
    }

    static int result(ContractHouse x, int... labels) {
        int[] l = threeOf(labels);
        return x.result(l[0], l[1], l[2]);
    }

    static void operands(ContractHouse x, int... tables) {
        for (int t : tables) {
            x.operand(t);
        }
    }

    static void fill(ContractHouse x, int table, int... cells) {
        for (int cell = 0; cell < cells.length; cell++) {
            x.set(table, cell, cells[cell]);
        }
    }

    /** Every cell of what comes of the expression, and that there are no others. */
    static void values(ContractHouse x, int... want) {
        for (int i = 0; i < want.length; i++) {
            Checks.due("value(" + i + ")", x.value(i), want[i]);
        }
        Checks.indexOut("value(" + want.length + ")", () -> x.value(want.length));
    }

    /** Every cell of a table with these labels; the expression is another one afterwards. */
    static void cells(ContractHouse x, int table, int[] labels, int... want) {
        x.clear();
        x.operand(table);
        Checks.due("cells of table " + table, result(x, labels), want.length);
        values(x, want);
        x.clear();
    }

    /** The plan's steps, each told by part, other part, cost and labels. */
    static void steps(ContractHouse x, int[]... want) {
        Checks.due("steps", x.about(3), want.length);
        int total = 0;
        for (int k = 0; k < want.length; k++) {
            for (int what = 0; what < 4; what++) {
                Checks.due("step(" + k + ", " + what + ")", x.step(k, what), want[k][what]);
            }
            total += want[k][2];
        }
        Checks.due("cost", x.cost(), total);
    }

    static int[] step(int part, int other, int cost, int labels) {
        return new int[] {part, other, cost, labels};
    }

    private static int[] threeOf(int... labels) {
        int[] three = Arrays.copyOf(labels, 3);
        Arrays.fill(three, labels.length, 3, N);
        return three;
    }
}
