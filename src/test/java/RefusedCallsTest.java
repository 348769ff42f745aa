import java.util.ArrayList;
import java.util.List;

/**
 * "A call that throws changes nothing." Of two objects that are alike one gets a call that it must
 * refuse; then both are asked for all that can be asked.
 */
public final class RefusedCallsTest {
    private static final int N = Houses.N;
    private static final int MIN = Houses.MIN;
    private static final int MAX = Houses.MAX;

    private interface Call {
        void on(ContractHouse x);
    }

    /** Objects with these tables; labels 6 and 7 stay free. */
    private enum Kind {
        EMPTY,
        HALF(new int[][] {{0, 1}, {1, 2}, {}}, 0, 1, 0),
        FULL(new int[][] {{0, 1}, {1, 2}, {}, {0, 3, 4}, {5}, {4}, {2, 3}, {1}}, 7, 1, 3, 0, 6, 1);

        final int[][] labels;
        final int[] operands;

        Kind() {
            this(new int[0][]);
        }

        Kind(int[][] labels, int... operands) {
            this.labels = labels;
            this.operands = operands;
        }

        ContractHouse make() {
            ContractHouse x = Houses.ofSizes(2, 3, 1, 2, 2, 3, 3);
            for (int[] l : labels) {
                int t = Houses.table(x, l);
                for (int cell = 0; cell < x.extent(t); cell++) {
                    x.set(t, cell, 7 * t + cell + 1);
                }
            }
            Houses.operands(x, operands);
            if (this != EMPTY) {
                Houses.result(x, 0, 2, 6);
            }
            return x;
        }
    }

    public static void main(String[] args) {
        Checks.runAll(RefusedCallsTest.class);
    }

    static void promise2RefusedLabelChangesNothing() {
        for (int label : new int[] {-1, 8, MIN, MAX}) {
            everywhere("size(" + label + ", 1)", x -> x.size(label, 1), "IllegalArgumentException");
        }
    }

    static void promise2RefusedSizeChangesNothing() {
        for (int label = 0; label < 8; label++) {
            int l = label;
            everywhere("size(" + l + ", 0)", x -> x.size(l, 0), "IllegalArgumentException");
            everywhere("size(" + l + ", 4)", x -> x.size(l, 4), "IllegalArgumentException");
        }
    }

    static void promise2RefusedSizeOfATablesLabelChangesNothing() {
        for (int label = 0; label < 3; label++) {
            for (int size = 1; size <= 3; size++) {
                int l = label;
                int s = size;
                String call = "size(" + l + ", " + s + ")";
                same(Kind.HALF, call, x -> x.size(l, s), "IllegalStateException");
                same(Kind.FULL, call, x -> x.size(l, s), "IllegalStateException");
            }
        }
    }

    static void promise3RefusedLabelsChangeNothing() {
        for (int[] l : wrongLabels()) {
            String call = "table(" + l[0] + ", " + l[1] + ", " + l[2] + ")";
            everywhere(call, x -> x.table(l[0], l[1], l[2]), "IllegalArgumentException");
        }
    }

    static void promise3RefusedNinthTableChangesNothing() {
        same(Kind.FULL, "table(5, 6, 7)", x -> x.table(5, 6, 7), "UnsupportedOperationException");
        same(Kind.FULL, "table()", x -> x.table(N, N, N), "UnsupportedOperationException");
    }

    static void promise4RefusedTableChangesNothing() {
        everywhere("set(-1, 0, 99)", x -> x.set(-1, 0, 99), "IndexOutOfBoundsException");
        everywhere("set(8, 0, 99)", x -> x.set(8, 0, 99), "IndexOutOfBoundsException");
        same(Kind.EMPTY, "set(0, 0, 99)", x -> x.set(0, 0, 99), "IndexOutOfBoundsException");
        same(Kind.HALF, "set(3, 0, 99)", x -> x.set(3, 0, 99), "IndexOutOfBoundsException");
    }

    static void promise4RefusedCellChangesNothing() {
        for (Kind kind : new Kind[] {Kind.HALF, Kind.FULL}) {
            for (int table = 0; table < kind.labels.length; table++) {
                int t = table;
                int end = kind.make().extent(t);
                for (int cell : new int[] {-1, end, end + 1, 27, MIN, MAX}) {
                    String call = "set(" + t + ", " + cell + ", 99)";
                    same(kind, call, x -> x.set(t, cell, 99), "IndexOutOfBoundsException");
                }
            }
        }
    }

    static void promise5RefusedTableChangesNothing() {
        everywhere("extent(-1)", x -> x.extent(-1), "IndexOutOfBoundsException");
        everywhere("extent(8)", x -> x.extent(8), "IndexOutOfBoundsException");
        same(Kind.HALF, "extent(3)", x -> x.extent(3), "IndexOutOfBoundsException");
    }

    static void promise7RefusedTableChangesNothing() {
        everywhere("operand(-1)", x -> x.operand(-1), "IndexOutOfBoundsException");
        everywhere("operand(8)", x -> x.operand(8), "IndexOutOfBoundsException");
        same(Kind.EMPTY, "operand(0)", x -> x.operand(0), "IndexOutOfBoundsException");
        same(Kind.HALF, "operand(3)", x -> x.operand(3), "IndexOutOfBoundsException");
    }

    static void promise7RefusedSeventhOperandChangesNothing() {
        for (int table = 0; table < 8; table++) {
            int t = table;
            same(Kind.FULL, "operand(" + t + ")", x -> x.operand(t), "UnsupportedOperationException");
        }
    }

    static void promise8RefusedLabelsChangeNothing() {
        for (int[] l : wrongLabels()) {
            String call = "result(" + l[0] + ", " + l[1] + ", " + l[2] + ")";
            everywhere(call, x -> x.result(l[0], l[1], l[2]), "IllegalArgumentException");
        }
    }

    static void promise10RefusedStepChangesNothing() {
        everywhere("step(-1, 0)", x -> x.step(-1, 0), "IndexOutOfBoundsException");
        everywhere("step(5, 0)", x -> x.step(5, 0), "IndexOutOfBoundsException");
        same(Kind.EMPTY, "step(0, 0)", x -> x.step(0, 0), "IndexOutOfBoundsException");
        same(Kind.HALF, "step(2, 0)", x -> x.step(2, 0), "IndexOutOfBoundsException");
    }

    static void promise10RefusedWhatChangesNothing() {
        for (int what : new int[] {-1, 4, MIN, MAX}) {
            String call = "step(0, " + what + ")";
            same(Kind.HALF, call, x -> x.step(0, what), "IllegalArgumentException");
            same(Kind.FULL, call, x -> x.step(0, what), "IllegalArgumentException");
        }
    }

    static void promise11RefusedCellChangesNothing() {
        everywhere("value(-1)", x -> x.value(-1), "IndexOutOfBoundsException");
        everywhere("value(27)", x -> x.value(27), "IndexOutOfBoundsException");
        same(Kind.EMPTY, "value(1)", x -> x.value(1), "IndexOutOfBoundsException");
        same(Kind.HALF, "value(6)", x -> x.value(6), "IndexOutOfBoundsException");
    }

    static void promise12RefusedWhatChangesNothing() {
        for (int what : new int[] {-1, 4, MIN, MAX}) {
            everywhere("about(" + what + ")", x -> x.about(what), "IllegalArgumentException");
        }
    }

    /** Wrong in the first, the second or the third place, behind what would be right. */
    private static int[][] wrongLabels() {
        return new int[][] {
            {8, N, N}, {-2, N, N}, {N, 7, N}, {N, N, 7}, {7, 7, N}, {7, 6, N}, {7, 8, N}, {6, -2, N},
            {6, N, 7}, {5, 6, 6}, {5, 7, 6}, {6, 7, 8}, {6, 7, -2}, {6, 7, MAX}, {6, 7, MIN},
        };
    }

    private static void everywhere(String name, Call call, String exception) {
        for (Kind kind : Kind.values()) {
            same(kind, name, call, exception);
        }
    }

    /** Both when nothing has been asked before the call, and when all has. */
    private static void same(Kind kind, String name, Call call, String exception) {
        for (boolean asked : new boolean[] {false, true}) {
            ContractHouse plain = kind.make();
            ContractHouse tried = kind.make();
            if (asked) {
                answers(plain);
                answers(tried);
            }
            String where = kind + ", " + name;
            Checks.due(where, Checks.outcome(() -> call.on(tried)), "throws." + exception);
            List<String> want = all(kind, plain);
            List<String> got = all(kind, tried);
            for (int n = 0; n < want.size(); n++) {
                Checks.due("after " + where, got.get(n), want.get(n));
            }
        }
    }

    private static List<String> all(Kind kind, ContractHouse x) {
        List<String> told = new ArrayList<>();
        told.add(answers(x));
        told.add(sizes(x));
        for (int t = 0; t < kind.labels.length; t++) {
            told.add(cells(x, t, kind.labels[t]));
        }
        told.add(room(x));
        return told;
    }

    /** What questions alone can tell. */
    private static String answers(ContractHouse x) {
        StringBuilder text = new StringBuilder("about");
        for (int what = 0; what < 4; what++) {
            text.append(' ').append(x.about(what));
        }
        text.append(", cost ").append(x.cost()).append(", steps");
        for (int k = 0; k < x.about(3); k++) {
            for (int what = 0; what < 4; what++) {
                text.append(' ').append(x.step(k, what));
            }
        }
        text.append(", values");
        for (int i = 0; i < 8; i++) {
            int cell = i;
            text.append(' ').append(Checks.outcome(() -> x.value(cell)));
        }
        text.append(", extents");
        for (int t = 0; t < x.about(0); t++) {
            text.append(' ').append(x.extent(t));
        }
        return text.toString();
    }

    private static String sizes(ContractHouse x) {
        StringBuilder text = new StringBuilder("sizes");
        for (int label = 0; label < 8; label++) {
            text.append(' ').append(Houses.result(x, label));
        }
        return text.toString();
    }

    private static String cells(ContractHouse x, int table, int[] labels) {
        StringBuilder text = new StringBuilder("cells of table " + table);
        x.clear();
        x.operand(table);
        int end = Houses.result(x, labels);
        for (int i = 0; i < end; i++) {
            text.append(' ').append(x.value(i));
        }
        return text.toString();
    }

    /** Which labels are free, and how many tables and operands there is room for. */
    private static String room(ContractHouse x) {
        StringBuilder text = new StringBuilder("free labels");
        for (int label = 0; label < 8; label++) {
            int l = label;
            text.append(' ').append(Checks.outcome(() -> x.size(l, 2)));
        }
        int made = x.about(0);
        text.append(", tables");
        for (int n = 0; n < 9; n++) {
            text.append(' ').append(Checks.outcome(() -> x.table(6, 7, N)));
        }
        for (int t = made; t < 8; t++) {
            text.append(", ").append(cells(x, t, new int[] {6, 7}));
        }
        x.clear();
        text.append(", operands");
        for (int n = 0; n < 7; n++) {
            text.append(' ').append(Checks.outcome(() -> x.operand(0)));
        }
        return text.toString();
    }
}
