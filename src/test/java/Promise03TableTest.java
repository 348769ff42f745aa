/** Promise 3, table. */
public final class Promise03TableTest {
    private static final int N = Houses.N;
    private static final int MIN = Houses.MIN;
    private static final int MAX = Houses.MAX;

    public static void main(String[] args) {
        Checks.runAll(Promise03TableTest.class);
    }

    // "A table of three labels, NONE for those behind its last one"

    static void promise3NoLabelsAreTaken() {
        taken(1, N, N, N);
    }

    static void promise3OneLabelIsTaken() {
        taken(2, 4, N, N);
    }

    static void promise3TwoLabelsAreTaken() {
        taken(4, 3, 4, N);
    }

    static void promise3ThreeLabelsAreTaken() {
        taken(8, 2, 4, 5);
    }

    static void promise3LowestLabelsAreTaken() {
        taken(2, 0, N, N);
        taken(8, 0, 1, 2);
    }

    static void promise3HighestLabelsAreTaken() {
        taken(2, 7, N, N);
        taken(4, 0, 7, N);
        taken(8, 5, 6, 7);
    }

    // "its number": "at most eight tables, numbered from 0"

    static void promise3FirstTableIsNumberZero() {
        Checks.due("number", new ContractHouse().table(0, 1, 2), 0);
    }

    static void promise3EighthTableIsNumberSeven() {
        ContractHouse x = Houses.ofTables(7);
        Checks.due("number", x.table(0, 1, 2), 7);
        Checks.due("about(0)", x.about(0), 8);
        Checks.due("extent(7)", x.extent(7), 8);
    }

    static void promise3NumberDoesNotCountRefusedTables() {
        ContractHouse x = Houses.ofTables(1);
        Checks.illegalArgument("table(1, 0, NONE)", () -> x.table(1, 0, N));
        Checks.due("number", x.table(0, 1, N), 1);
    }

    // "UnsupportedOperationException if there are eight."

    static void promise3NinthTableIsRefused() {
        ContractHouse x = Houses.ofTables(8);
        Checks.unsupported("table(0, 1, 2)", () -> x.table(0, 1, 2));
        Checks.unsupported("table(NONE, NONE, NONE)", () -> x.table(N, N, N));
        Checks.due("about(0)", x.about(0), 8);
    }

    static void promise3NinthTableIsRefusedAgainAndAfterClear() {
        ContractHouse x = Houses.ofTables(8);
        Checks.unsupported("once", () -> x.table(0, N, N));
        Checks.unsupported("again", () -> x.table(0, N, N));
        x.clear();
        Checks.unsupported("after clear", () -> x.table(0, N, N));
    }

    static void promise3NinthTableOfWrongLabelsIsAnIllegalArgument() {
        ContractHouse x = Houses.ofTables(8);
        Checks.illegalArgument("table(1, 0, NONE)", () -> x.table(1, 0, N));
        Checks.illegalArgument("table(8, NONE, NONE)", () -> x.table(8, N, N));
    }

    // "IllegalArgumentException if they aren't as they must be": labels 0 .. 7, unlike, rising

    static void promise3AlikeLabelsAreRefused() {
        refused(3, 3, N);
        refused(3, 4, 4);
        refused(3, 3, 4);
        refused(0, 0, 0);
        refused(7, 7, 7);
    }

    static void promise3FallingLabelsAreRefused() {
        refused(1, 0, N);
        refused(7, 6, N);
        refused(0, 2, 1);
        refused(1, 0, 2);
        refused(2, 1, 0);
        refused(1, 2, 0);
        refused(0, 1, 0);
    }

    static void promise3NoneBeforeALabelIsRefused() {
        refused(N, 0, N);
        refused(N, N, 0);
        refused(N, 0, 1);
        refused(0, N, 1);
        refused(5, N, 7);
    }

    static void promise3LabelBehindTheLastIsRefused() {
        refused(8, N, N);
        refused(0, 8, N);
        refused(0, 1, 8);
        refused(6, 7, 8);
        refused(N, N, 8);
    }

    static void promise3LabelBelowNoneIsRefused() {
        refused(-2, N, N);
        refused(0, -2, N);
        refused(0, 1, -2);
        refused(N, -2, N);
        refused(N, N, -2);
        refused(-4, -3, -2);
        refused(-2, 0, 1);
    }

    static void promise3LabelFarOutIsRefused() {
        refused(MIN, N, N);
        refused(MAX, N, N);
        refused(0, MIN, N);
        refused(0, MAX, N);
        refused(0, 1, MIN);
        refused(0, 1, MAX);
        refused(32, N, N);
        refused(0, 33, N);
        refused(0, 1, 34);
        refused(N, N, MIN);
    }

    static void promise3EveryTripleNearTheEdgesIsTakenOrRefused() {
        for (int a = -3; a < 11; a++) {
            for (int b = -3; b < 11; b++) {
                for (int c = -3; c < 11; c++) {
                    triple(a, b, c);
                }
            }
        }
    }

    // "All are 0 at first."

    static void promise3AllCellsAreZeroAtFirst() {
        ContractHouse x = Houses.ofSize(3);
        int[] labels = {0, 1, 2};
        Houses.table(x, labels);
        Houses.cells(x, 0, labels, new int[27]);
    }

    static void promise3CellsAreZeroAtFirstWhereOthersAreFull() {
        ContractHouse x = Houses.ofSize(3);
        int[] labels = {5, 6, 7};
        for (int t = 0; t < 7; t++) {
            Houses.table(x, labels);
            for (int cell = 0; cell < 27; cell++) {
                x.set(t, cell, 1);
            }
        }
        Houses.table(x, labels);
        Houses.cells(x, 7, labels, new int[27]);
    }

    static void promise3CellsAreZeroAtFirstAfterASetThatCameTooEarly() {
        ContractHouse x = Houses.ofTables(1);
        Checks.indexOut("set(1, 0, 9)", () -> x.set(1, 0, 9));
        Houses.table(x, 3);
        Houses.cells(x, 1, new int[] {3}, 0, 0);
    }

    static void promise3TableIsNoOperandYet() {
        ContractHouse x = new ContractHouse();
        x.table(0, 1, 2);
        Checks.due("about(1)", x.about(1), 0);
        Checks.due("about(2)", x.about(2), 0);
        Houses.values(x, 1);
    }

    private static void taken(int extent, int a, int b, int c) {
        ContractHouse x = new ContractHouse();
        String call = "table(" + a + ", " + b + ", " + c + ")";
        Checks.due(call, Checks.outcome(() -> x.table(a, b, c)), "0");
        Checks.due("extent after " + call, x.extent(0), extent);
    }

    private static void refused(int a, int b, int c) {
        ContractHouse x = new ContractHouse();
        Checks.illegalArgument("table(" + a + ", " + b + ", " + c + ")", () -> x.table(a, b, c));
        Checks.due("about(0)", x.about(0), 0);
    }

    private static void triple(int a, int b, int c) {
        boolean none = a == N && b == N && c == N;
        boolean one = isLabel(a) && b == N && c == N;
        boolean two = isLabel(a) && isLabel(b) && a < b && c == N;
        boolean three = isLabel(a) && isLabel(b) && isLabel(c) && a < b && b < c;
        if (none || one || two || three) {
            taken(none ? 1 : one ? 2 : two ? 4 : 8, a, b, c);
        } else {
            refused(a, b, c);
        }
    }

    private static boolean isLabel(int label) {
        return label >= 0 && label <= 7;
    }
}
