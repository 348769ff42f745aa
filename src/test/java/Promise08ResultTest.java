/** Promise 8, result. */
public final class Promise08ResultTest {
    private static final int N = Houses.N;
    private static final int MIN = Houses.MIN;
    private static final int MAX = Houses.MAX;

    public static void main(String[] args) {
        Checks.runAll(Promise08ResultTest.class);
    }

    // "The result labels, as for a table: how many cells come of it."

    static void promise8NoLabelsAreTaken() {
        taken(1, 0, N, N, N);
    }

    static void promise8OneLabelIsTaken() {
        taken(2, 1 << 4, 4, N, N);
    }

    static void promise8TwoLabelsAreTaken() {
        taken(4, 1 << 3 | 1 << 4, 3, 4, N);
    }

    static void promise8ThreeLabelsAreTaken() {
        taken(8, 1 << 2 | 1 << 4 | 1 << 5, 2, 4, 5);
    }

    static void promise8LowestLabelsAreTaken() {
        taken(2, 1, 0, N, N);
        taken(8, 7, 0, 1, 2);
    }

    static void promise8HighestLabelsAreTaken() {
        taken(2, 128, 7, N, N);
        taken(4, 129, 0, 7, N);
        taken(8, 32 + 64 + 128, 5, 6, 7);
    }

    static void promise8FewestCellsAreOne() {
        ContractHouse x = Houses.ofSize(1);
        Checks.due("result(5, 6, 7)", x.result(5, 6, 7), 1);
        Houses.values(x, 1);
    }

    static void promise8MostCellsAre27() {
        ContractHouse x = Houses.ofSize(3);
        Checks.due("result(5, 6, 7)", x.result(5, 6, 7), 27);
        Checks.due("value(26)", x.value(26), 1);
        Checks.indexOut("value(27)", () -> x.value(27));
    }

    static void promise8CellsAreTheProductOfTheSizes() {
        for (int a = 1; a <= 3; a++) {
            for (int b = 1; b <= 3; b++) {
                for (int c = 1; c <= 3; c++) {
                    ContractHouse x = Houses.ofSizes(a, b, c);
                    Checks.due("of three labels", Houses.result(x, 0, 1, 2), a * b * c);
                    Checks.due("of two labels", Houses.result(x, 0, 2), a * c);
                    Checks.due("of one label", Houses.result(x, 1), b);
                }
            }
        }
    }

    static void promise8LaterResultTakesTheEarlierOnesPlace() {
        ContractHouse x = new ContractHouse();
        Houses.result(x, 5, 6, 7);
        Houses.result(x, 1, 2);
        Checks.due("about(2)", x.about(2), 6);
        Houses.values(x, 1, 1, 1, 1);
        Houses.result(x);
        Checks.due("about(2)", x.about(2), 0);
        Houses.values(x, 1);
    }

    static void promise8LabelThatNoTableHasIsTaken() {
        ContractHouse x = Houses.of2x3();
        x.operand(0);
        Checks.due("result(0, 7)", Houses.result(x, 0, 7), 4);
        Houses.values(x, 6, 6, 15, 15);
    }

    static void promise8CellsFollowTheSizeOfALabelThatNoTableHas() {
        ContractHouse x = Houses.of2x3();
        Houses.operands(x, 0, 0);
        Houses.result(x, 0, 3);
        Houses.values(x, 14, 14, 77, 77);
        x.size(3, 3);
        Houses.values(x, 14, 14, 14, 77, 77, 77);
        x.size(3, 1);
        Houses.values(x, 14, 77);
    }

    static void promise8OperandsStay() {
        ContractHouse x = Houses.of2x3();
        Houses.operands(x, 0, 0);
        Houses.result(x, 1);
        Checks.due("about(1)", x.about(1), 2);
        Houses.values(x, 17, 29, 45);
    }

    static void promise8ValueAndPlanFollowAResultAfterThem() {
        ContractHouse x = Houses.of2x3();
        Houses.table(x);
        x.set(1, 0, 1);
        Houses.operands(x, 0, 0, 1);
        Checks.due("value before", x.value(0), 91);
        Checks.due("cost before", x.cost(), 7);
        Houses.result(x, 0, 1);
        Checks.due("value after", x.value(5), 36);
        Checks.due("cost after", x.cost(), 12);
    }

    static void promise8ResultHoldsNoLabelFast() {
        ContractHouse x = new ContractHouse();
        Houses.result(x, 0, 1, 2);
        Checks.done("size(1, 3)", () -> x.size(1, 3));
    }

    // "IllegalArgumentException if they aren't as they must be."

    static void promise8AlikeLabelsAreRefused() {
        refused(3, 3, N);
        refused(3, 4, 4);
        refused(3, 3, 4);
        refused(7, 7, 7);
    }

    static void promise8FallingLabelsAreRefused() {
        refused(1, 0, N);
        refused(0, 2, 1);
        refused(1, 0, 2);
        refused(2, 1, 0);
        refused(0, 1, 0);
    }

    static void promise8NoneBeforeALabelIsRefused() {
        refused(N, 0, N);
        refused(N, N, 0);
        refused(N, 0, 1);
        refused(0, N, 1);
    }

    static void promise8LabelBehindTheLastIsRefused() {
        refused(8, N, N);
        refused(0, 8, N);
        refused(0, 1, 8);
        refused(6, 7, 8);
    }

    static void promise8LabelBelowNoneIsRefused() {
        refused(-2, N, N);
        refused(0, -2, N);
        refused(0, 1, -2);
        refused(N, -2, N);
        refused(N, N, -2);
        refused(-4, -3, -2);
    }

    static void promise8LabelFarOutIsRefused() {
        refused(MIN, N, N);
        refused(MAX, N, N);
        refused(0, MIN, N);
        refused(0, MAX, N);
        refused(0, 1, MIN);
        refused(0, 1, MAX);
        refused(32, N, N);
        refused(0, 33, N);
    }

    static void promise8EveryTripleNearTheEdgesIsTakenOrRefusedAsForATable() {
        for (int a = -3; a < 11; a++) {
            for (int b = -3; b < 11; b++) {
                for (int c = -3; c < 11; c++) {
                    asForATable(a, b, c);
                }
            }
        }
    }

    private static void asForATable(int a, int b, int c) {
        boolean isTable = Checks.outcome(() -> new ContractHouse().table(a, b, c)).equals("0");
        if (isTable) {
            int bits = bit(a) | bit(b) | bit(c);
            taken(1 << Integer.bitCount(bits), bits, a, b, c);
        } else {
            refused(a, b, c);
        }
    }

    private static int bit(int label) {
        return label == N ? 0 : 1 << label;
    }

    private static void taken(int cells, int bits, int a, int b, int c) {
        ContractHouse x = new ContractHouse();
        String call = "result(" + a + ", " + b + ", " + c + ")";
        Checks.due(call, Checks.outcome(() -> x.result(a, b, c)), Integer.toString(cells));
        Checks.due("about(2) after " + call, x.about(2), bits);
    }

    private static void refused(int a, int b, int c) {
        ContractHouse x = new ContractHouse();
        Houses.result(x, 2, 3);
        Checks.illegalArgument("result(" + a + ", " + b + ", " + c + ")", () -> x.result(a, b, c));
        Checks.due("about(2)", x.about(2), 12);
    }
}
