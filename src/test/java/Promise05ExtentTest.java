/** Promise 5, extent. */
public final class Promise05ExtentTest {
    private static final int MIN = Houses.MIN;
    private static final int MAX = Houses.MAX;

    public static void main(String[] args) {
        Checks.runAll(Promise05ExtentTest.class);
    }

    // "IndexOutOfBoundsException if there is no such one."

    static void promise5TableBelowTheFirstIsRefused() {
        ContractHouse x = Houses.ofTables(3);
        Checks.indexOut("extent(-1)", () -> x.extent(-1));
    }

    static void promise5TableBehindTheLastIsRefused() {
        for (int tables = 0; tables <= 8; tables++) {
            ContractHouse x = Houses.ofTables(tables);
            int t = tables;
            Checks.indexOut("extent(" + t + ")", () -> x.extent(t));
        }
    }

    static void promise5TableFarOutIsRefused() {
        ContractHouse x = Houses.ofTables(8);
        for (int t : new int[] {MIN, MAX, 9, 256, 1 << 16, -8}) {
            Checks.indexOut("extent(" + t + ")", () -> x.extent(t));
        }
    }

    static void promise5FirstAndLastTableAreTaken() {
        ContractHouse x = new ContractHouse();
        Houses.table(x, 0, 1);
        for (int t = 1; t < 7; t++) {
            Houses.table(x);
        }
        Houses.table(x, 2);
        Checks.due("extent(0)", x.extent(0), 4);
        Checks.due("extent(7)", x.extent(7), 2);
    }

    static void promise5RefusedTableHasNoExtent() {
        ContractHouse x = Houses.ofTables(8);
        Checks.unsupported("table(0, 1, 2)", () -> x.table(0, 1, 2));
        Checks.indexOut("extent(8)", () -> x.extent(8));
    }

    // "How many cells a table has."

    static void promise5TableWithoutLabelsHasOneCell() {
        Checks.due("extent", Houses.ofTables(1).extent(0), 1);
    }

    static void promise5TableOfLabelsOfSizeOneHasOneCell() {
        ContractHouse x = Houses.ofSize(1);
        Houses.table(x, 5, 6, 7);
        Checks.due("extent", x.extent(0), 1);
    }

    static void promise5LargestTableHas27Cells() {
        ContractHouse x = Houses.ofSize(3);
        Houses.table(x, 5, 6, 7);
        Checks.due("extent", x.extent(0), 27);
    }

    static void promise5ExtentIsTheProductOfTheSizes() {
        for (int a = 1; a <= 3; a++) {
            for (int b = 1; b <= 3; b++) {
                for (int c = 1; c <= 3; c++) {
                    ContractHouse x = Houses.ofSizes(a, b, c);
                    Houses.table(x, 0, 1, 2);
                    Houses.table(x, 0, 2);
                    Houses.table(x, 1);
                    Checks.due("of three labels", x.extent(0), a * b * c);
                    Checks.due("of two labels", x.extent(1), a * c);
                    Checks.due("of one label", x.extent(2), b);
                }
            }
        }
    }

    static void promise5ExtentIsThatOfTheTableNotOfTheExpression() {
        ContractHouse x = Houses.of2x3();
        Houses.table(x);
        Houses.operands(x, 1, 0);
        Houses.result(x, 0);
        Checks.due("extent(0)", x.extent(0), 6);
        Checks.due("extent(1)", x.extent(1), 1);
        x.clear();
        Checks.due("extent(0) after clear", x.extent(0), 6);
    }
}
