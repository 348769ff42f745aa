/** Promises 1 to 5: a new object, labels' sizes, tables and their cells. */
public final class TablesTest {
    private static final int N = ContractHouse.NONE;
    private static final int MIN = Integer.MIN_VALUE;
    private static final int MAX = Integer.MAX_VALUE;

    public static void main(String[] args) {
        newObjectIsEmpty();
        sizesAreTwoAtFirst();
        sizeCountsForLaterTables();
        sizeRefusesWrongOnes();
        sizeIsFixedByATable();
        tableCountsUpToEight();
        tableRefusesWrongLabels();
        tableOfNoLabelsIsOneCell();
        cellsAreZeroAtFirstAndNumberedLastLabelFirst();
        setRefusesWrongPlaces();
        extentRefusesWrongTables();
        Checks.end();
    }

    private static void newObjectIsEmpty() {
        ContractHouse x = new ContractHouse();
        Checks.due("NONE", ContractHouse.NONE, -1);
        for (int what = 0; what < 4; what++) {
            Checks.due("about(" + what + ") of a new object", x.about(what), 0);
        }
        Checks.due("cost of a new object", x.cost(), 0);
        Checks.due("value(0) of a new object", x.value(0), 1);
        Checks.indexOut("value(1) of a new object", () -> x.value(1));
        Checks.indexOut("extent(0) of a new object", () -> x.extent(0));
    }

    private static void sizesAreTwoAtFirst() {
        ContractHouse x = new ContractHouse();
        for (int label = 0; label < 8; label++) {
            x.table(label, N, N);
            Checks.due("extent over label " + label, x.extent(label), 2);
        }
    }

    private static void sizeCountsForLaterTables() {
        ContractHouse x = new ContractHouse();
        for (int label = 0; label < 8; label++) {
            x.size(label, 2);
            x.size(label, 3);
            x.size(label, 1 + label % 3);
        }
        for (int label = 0; label < 8; label++) {
            x.table(label, N, N);
            Checks.due("extent over label " + label, x.extent(label), 1 + label % 3);
        }
    }

    private static void sizeRefusesWrongOnes() {
        ContractHouse x = new ContractHouse();
        for (int label : new int[] {-1, 8, 9, MIN, MAX}) {
            refusedSize(x, label, 2, "throws.IllegalArgumentException");
        }
        for (int size : new int[] {0, -1, 4, MIN, MAX}) {
            refusedSize(x, 7, size, "throws.IllegalArgumentException");
        }
        x.table(7, N, N);
        Checks.due("extent after refused sizes", x.extent(0), 2);
        // What is wrong in itself is told before what is wrong just now.
        refusedSize(x, 7, 4, "throws.IllegalArgumentException");
        refusedSize(x, 7, 0, "throws.IllegalArgumentException");
    }

    private static void sizeIsFixedByATable() {
        ContractHouse x = new ContractHouse();
        x.size(3, 3);
        x.table(1, 3, 5);
        for (int label : new int[] {1, 3, 5}) {
            refusedSize(x, label, 1, "throws.IllegalStateException");
        }
        refusedSize(x, 3, 3, "throws.IllegalStateException");
        Checks.due("extent after refused sizes", x.extent(0), 12);
        for (int label : new int[] {0, 2, 4, 6, 7}) {
            Checks.due("size of a free label", Checks.outcome(() -> x.size(label, 3)), "done");
        }
        // A result label alone fixes nothing, nor does clearing free a table's label.
        x.result(2, N, N);
        Checks.due("size of a result label", Checks.outcome(() -> x.size(2, 1)), "done");
        x.clear();
        refusedSize(x, 3, 2, "throws.IllegalStateException");
        x.table(0, N, N);
        refusedSize(x, 0, 2, "throws.IllegalStateException");
    }

    private static void refusedSize(ContractHouse x, int label, int size, String want) {
        String got = Checks.outcome(() -> x.size(label, size));
        Checks.due("size(" + label + ", " + size + ")", got, want);
    }

    private static void tableCountsUpToEight() {
        ContractHouse x = new ContractHouse();
        for (int t = 0; t < 8; t++) {
            Checks.due("number of a table", x.table(0, 1, 2), t);
            Checks.due("tables", x.about(0), t + 1);
        }
        Checks.unsupported("ninth table", () -> x.table(0, 1, 2));
        Checks.unsupported("ninth table, no labels", () -> x.table(N, N, N));
        Checks.illegalArgument("ninth table, wrong labels", () -> x.table(1, 0, N));
        Checks.due("tables after refusals", x.about(0), 8);
        Checks.indexOut("extent(8)", () -> x.extent(8));
        x.clear();
        Checks.unsupported("ninth table after clear", () -> x.table(0, 1, 2));
    }

    private static void tableRefusesWrongLabels() {
        ContractHouse x = new ContractHouse();
        int[][] wrong = {
            {0, 0, N}, {1, 0, N}, {0, 1, 1}, {0, 2, 1}, {2, 1, 0}, {0, 1, 0}, {7, 7, 7},
            {N, 0, N}, {N, N, 0}, {N, 0, 1}, {0, N, 1}, {5, N, 7},
            {8, N, N}, {0, 8, N}, {0, 1, 8}, {6, 7, 8}, {-2, N, N}, {0, -2, N}, {0, 1, -2},
            {N, -2, N}, {N, N, -2}, {MIN, N, N}, {MAX, N, N}, {0, MAX, N}, {0, MIN, N},
            {0, 1, MAX}, {0, 1, MIN}, {32, N, N}, {0, 33, N}, {N, N, 8},
        };
        for (int[] w : wrong) {
            String text = w[0] + ", " + w[1] + ", " + w[2];
            Checks.illegalArgument("table(" + text + ")", () -> x.table(w[0], w[1], w[2]));
        }
        Checks.due("tables after refusals", x.about(0), 0);
        // A refused table holds no label fast.
        Checks.due("size after refusals", Checks.outcome(() -> x.size(0, 3)), "done");
        Checks.due("table(0, 7, NONE)", x.table(0, 7, N), 0);
        Checks.due("table(5, 6, 7)", x.table(5, 6, 7), 1);
        Checks.due("table(7, NONE, NONE)", x.table(7, N, N), 2);
    }

    private static void tableOfNoLabelsIsOneCell() {
        ContractHouse x = new ContractHouse();
        x.table(N, N, N);
        Checks.due("extent of no labels", x.extent(0), 1);
        x.operand(0);
        Checks.due("its cell at first", x.value(0), 0);
        x.set(0, 0, -9);
        Checks.due("its cell", x.value(0), -9);
        Checks.due("set beyond", Checks.outcome(() -> x.set(0, 1, 4)), "throws.IndexOutOfBoundsException");
    }

    private static void cellsAreZeroAtFirstAndNumberedLastLabelFirst() {
        ContractHouse x = new ContractHouse();
        x.size(2, 3);
        x.size(4, 2);
        x.size(6, 3);
        x.table(2, 4, 6);
        Checks.due("extent", x.extent(0), 18);
        x.operand(0);
        x.result(2, 4, 6);
        for (int cell = 0; cell < 18; cell++) {
            Checks.due("cell " + cell + " at first", x.value(cell), 0);
        }
        for (int cell = 0; cell < 18; cell++) {
            x.set(0, cell, 100 + cell);
        }
        for (int cell = 0; cell < 18; cell++) {
            Checks.due("cell " + cell, x.value(cell), 100 + cell);
        }
        // Sums over two labels tell which cells belong to an index of the third one.
        x.result(2, N, N);
        Checks.due("first label, 0", x.value(0), 600 + 15);
        Checks.due("first label, 2", x.value(2), 600 + 15 + 72);
        x.result(4, N, N);
        Checks.due("middle label, 1", x.value(1), 900 + (3 + 4 + 5) + (9 + 10 + 11) + (15 + 16 + 17));
        x.result(6, N, N);
        Checks.due("last label, 1", x.value(1), 600 + 1 + 4 + 7 + 10 + 13 + 16);
    }

    private static void setRefusesWrongPlaces() {
        ContractHouse x = new ContractHouse();
        x.table(0, 1, N);
        x.table(0, N, N);
        for (int[] w : new int[][] {{-1, 0}, {2, 0}, {8, 0}, {MIN, 0}, {MAX, 0},
                {0, 4}, {0, -1}, {1, 2}, {1, -1}, {0, MIN}, {0, MAX}, {0, 27}}) {
            String got = Checks.outcome(() -> x.set(w[0], w[1], 5));
            Checks.due("set(" + w[0] + ", " + w[1] + ")", got, "throws.IndexOutOfBoundsException");
        }
        x.operand(0);
        Checks.due("sum of table 0 after refusals", x.value(0), 0);
        x.clear();
        x.operand(1);
        Checks.due("sum of table 1 after refusals", x.value(0), 0);
        x.set(1, 1, MIN);
        x.set(1, 1, MAX);
        Checks.due("the later set counts", x.value(0), MAX);
    }

    private static void extentRefusesWrongTables() {
        ContractHouse x = new ContractHouse();
        x.size(0, 3);
        x.size(1, 3);
        x.size(2, 3);
        x.size(3, 1);
        x.table(0, 1, 2);
        x.table(3, N, N);
        Checks.due("largest extent", x.extent(0), 27);
        Checks.due("extent over a label of size 1", x.extent(1), 1);
        for (int t : new int[] {-1, 2, 8, MIN, MAX}) {
            Checks.indexOut("extent(" + t + ")", () -> x.extent(t));
        }
    }
}
