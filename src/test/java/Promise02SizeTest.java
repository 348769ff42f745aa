/** Promise 2, size. */
public final class Promise02SizeTest {
    private static final int N = Houses.N;
    private static final int MIN = Houses.MIN;
    private static final int MAX = Houses.MAX;

    public static void main(String[] args) {
        Checks.runAll(Promise02SizeTest.class);
    }

    // "IllegalArgumentException if there is no such label": labels are 0 .. 7

    static void promise2LabelBelowTheFirstIsRefused() {
        ContractHouse x = new ContractHouse();
        Checks.illegalArgument("size(-1, 2)", () -> x.size(-1, 2));
        Checks.illegalArgument("size(-2, 2)", () -> x.size(-2, 2));
    }

    static void promise2LabelBehindTheLastIsRefused() {
        ContractHouse x = new ContractHouse();
        Checks.illegalArgument("size(8, 2)", () -> x.size(8, 2));
        Checks.illegalArgument("size(9, 2)", () -> x.size(9, 2));
    }

    static void promise2LabelFarOutIsRefused() {
        ContractHouse x = new ContractHouse();
        for (int label : new int[] {MIN, MAX, 32, 33, 256, -32, -8, 1 << 31 | 1}) {
            Checks.illegalArgument("size(" + label + ", 2)", () -> x.size(label, 2));
        }
    }

    static void promise2FirstLabelIsTaken() {
        takes(0, 3);
    }

    static void promise2LastLabelIsTaken() {
        takes(7, 3);
    }

    static void promise2EachLabelHasItsOwnSize() {
        ContractHouse x = Houses.ofSizes(1, 2, 3, 1, 2, 3, 1, 2);
        for (int label = 0; label < 8; label++) {
            Checks.due("cells along label " + label, Houses.result(x, label), 1 + label % 3);
        }
    }

    // "IllegalArgumentException if there is no such .. size": sizes are 1 .. 3

    static void promise2SizeBelowOneIsRefused() {
        ContractHouse x = new ContractHouse();
        Checks.illegalArgument("size(3, 0)", () -> x.size(3, 0));
        Checks.illegalArgument("size(3, -1)", () -> x.size(3, -1));
    }

    static void promise2SizeAboveThreeIsRefused() {
        ContractHouse x = new ContractHouse();
        Checks.illegalArgument("size(3, 4)", () -> x.size(3, 4));
        Checks.illegalArgument("size(3, 5)", () -> x.size(3, 5));
    }

    static void promise2SizeFarOutIsRefused() {
        ContractHouse x = new ContractHouse();
        for (int size : new int[] {MIN, MAX, 257, 1 << 16 | 1, -3}) {
            Checks.illegalArgument("size(3, " + size + ")", () -> x.size(3, size));
        }
    }

    static void promise2SmallestSizeIsTaken() {
        takes(3, 1);
    }

    static void promise2LargestSizeIsTaken() {
        takes(3, 3);
    }

    static void promise2NoSuchLabelAndNoSuchSizeIsRefused() {
        ContractHouse x = new ContractHouse();
        Checks.illegalArgument("size(8, 4)", () -> x.size(8, 4));
        Checks.illegalArgument("size(-1, 0)", () -> x.size(-1, 0));
    }

    // "A label's size", "2 at first"

    static void promise2SizeIsTwoAtFirst() {
        for (int label = 0; label < 8; label++) {
            ContractHouse x = new ContractHouse();
            Houses.table(x, label);
            Checks.due("extent along label " + label, x.extent(0), 2);
        }
    }

    static void promise2LaterSizeCounts() {
        ContractHouse x = new ContractHouse();
        x.size(4, 3);
        x.size(4, 1);
        x.size(4, 3);
        Houses.table(x, 4);
        Checks.due("extent", x.extent(0), 3);
    }

    // "IllegalStateException if a table has it."

    static void promise2FirstLabelOfATableIsRefused() {
        ContractHouse x = withTable135();
        Checks.illegalState("size(1, 3)", () -> x.size(1, 3));
    }

    static void promise2MiddleLabelOfATableIsRefused() {
        ContractHouse x = withTable135();
        Checks.illegalState("size(3, 3)", () -> x.size(3, 3));
    }

    static void promise2LastLabelOfATableIsRefused() {
        ContractHouse x = withTable135();
        Checks.illegalState("size(5, 3)", () -> x.size(5, 3));
    }

    static void promise2LowestAndHighestLabelOfATableAreRefused() {
        ContractHouse x = new ContractHouse();
        Houses.table(x, 0, 7);
        Checks.illegalState("size(0, 1)", () -> x.size(0, 1));
        Checks.illegalState("size(7, 1)", () -> x.size(7, 1));
    }

    static void promise2SameSizeOfATablesLabelIsRefusedToo() {
        ContractHouse x = withTable135();
        Checks.illegalState("size(3, 2)", () -> x.size(3, 2));
    }

    static void promise2LabelOfTheEighthTableIsRefused() {
        ContractHouse x = Houses.ofTables(7);
        Checks.done("before", () -> x.size(6, 3));
        Houses.table(x, 6);
        Checks.illegalState("size(6, 3)", () -> x.size(6, 3));
    }

    static void promise2LabelOfAnEarlierTableIsRefused() {
        ContractHouse x = new ContractHouse();
        Houses.table(x, 2);
        Houses.table(x, 4);
        Checks.illegalState("size(2, 3)", () -> x.size(2, 3));
    }

    static void promise2LabelOfATableIsRefusedAfterClear() {
        ContractHouse x = withTable135();
        x.operand(0);
        x.clear();
        Checks.illegalState("size(3, 1)", () -> x.size(3, 1));
    }

    static void promise2WrongSizeOfATablesLabelIsAnIllegalArgument() {
        ContractHouse x = withTable135();
        Checks.illegalArgument("size(3, 0)", () -> x.size(3, 0));
        Checks.illegalArgument("size(3, 4)", () -> x.size(3, 4));
    }

    static void promise2LabelsThatNoTableHasMayChange() {
        ContractHouse x = withTable135();
        for (int label : new int[] {0, 2, 4, 6, 7}) {
            Checks.done("size(" + label + ", 3)", () -> x.size(label, 3));
            Checks.due("cells along it", Houses.result(x, label), 3);
        }
        Checks.due("extent of the table", x.extent(0), 8);
    }

    static void promise2LabelOfTheResultAloneMayChange() {
        ContractHouse x = new ContractHouse();
        Houses.result(x, 2, 3);
        Checks.done("size(2, 3)", () -> x.size(2, 3));
        Houses.values(x, 1, 1, 1, 1, 1, 1);
    }

    static void promise2TableWithoutLabelsHasNone() {
        ContractHouse x = Houses.ofTables(8);
        for (int label = 0; label < 8; label++) {
            int l = label;
            Checks.done("size(" + label + ", 1)", () -> x.size(l, 1));
        }
    }

    static void promise2LabelsOfARefusedTableMayChange() {
        ContractHouse x = Houses.ofTables(8);
        Checks.unsupported("table(0, 1, 2)", () -> x.table(0, 1, 2));
        Checks.illegalArgument("table(3, 4, 4)", () -> x.table(3, 4, 4));
        for (int label = 0; label < 5; label++) {
            int l = label;
            Checks.done("size(" + label + ", 3)", () -> x.size(l, 3));
        }
    }

    private static void takes(int label, int size) {
        ContractHouse x = new ContractHouse();
        Checks.done("size(" + label + ", " + size + ")", () -> x.size(label, size));
        x.table(label, N, N);
        Checks.due("extent along label " + label, x.extent(0), size);
    }

    private static ContractHouse withTable135() {
        ContractHouse x = new ContractHouse();
        Houses.table(x, 1, 3, 5);
        return x;
    }
}
