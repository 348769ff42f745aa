/** Promise 4, set. */
public final class Promise04SetTest {
    private static final int MIN = Houses.MIN;
    private static final int MAX = Houses.MAX;

    public static void main(String[] args) {
        Checks.runAll(Promise04SetTest.class);
    }

    // "IndexOutOfBoundsException if there is no such table"

    static void promise4TableBelowTheFirstIsRefused() {
        ContractHouse x = Houses.ofTables(2);
        Checks.indexOut("set(-1, 0, 1)", () -> x.set(-1, 0, 1));
    }

    static void promise4TableBehindTheLastIsRefused() {
        for (int tables = 0; tables <= 8; tables++) {
            ContractHouse x = Houses.ofTables(tables);
            int t = tables;
            Checks.indexOut("set(" + t + ", 0, 1)", () -> x.set(t, 0, 1));
        }
    }

    static void promise4TableFarOutIsRefused() {
        ContractHouse x = Houses.ofTables(8);
        for (int t : new int[] {MIN, MAX, 9, 27, 256, 1 << 16, -8}) {
            Checks.indexOut("set(" + t + ", 0, 1)", () -> x.set(t, 0, 1));
        }
    }

    static void promise4LastTableIsTaken() {
        ContractHouse x = Houses.ofTables(8);
        Checks.done("set(7, 0, 9)", () -> x.set(7, 0, 9));
        Houses.cells(x, 7, new int[0], 9);
    }

    // "IndexOutOfBoundsException if there is no such .. cell"

    static void promise4CellBelowTheFirstIsRefused() {
        ContractHouse x = Houses.of2x3();
        Houses.table(x, 2);
        Checks.indexOut("set(0, -1, 9)", () -> x.set(0, -1, 9));
        Checks.indexOut("set(1, -1, 9)", () -> x.set(1, -1, 9));
    }

    static void promise4CellBehindTheLastIsRefused() {
        ContractHouse x = Houses.of2x3();
        Checks.indexOut("set(0, 6, 9)", () -> x.set(0, 6, 9));
        Checks.indexOut("set(0, 7, 9)", () -> x.set(0, 7, 9));
        Checks.indexOut("set(0, 26, 9)", () -> x.set(0, 26, 9));
        Checks.indexOut("set(0, 27, 9)", () -> x.set(0, 27, 9));
    }

    static void promise4CellBehindTheOnlyOneIsRefused() {
        ContractHouse x = Houses.ofSizes(1);
        Houses.table(x);
        Houses.table(x, 0);
        Checks.indexOut("of no labels, set(0, 1, 9)", () -> x.set(0, 1, 9));
        Checks.indexOut("of a label of size 1, set(1, 1, 9)", () -> x.set(1, 1, 9));
    }

    static void promise4CellBehindTheLastOfTheLargestIsRefused() {
        ContractHouse x = Houses.ofSize(3);
        for (int t = 0; t < 8; t++) {
            Houses.table(x, 0, 1, 2);
        }
        Checks.indexOut("set(0, 27, 9)", () -> x.set(0, 27, 9));
        Checks.indexOut("set(7, 27, 9)", () -> x.set(7, 27, 9));
    }

    static void promise4CellFarOutIsRefused() {
        ContractHouse x = Houses.of2x3();
        for (int cell : new int[] {MIN, MAX, 256, 1 << 16, -6}) {
            Checks.indexOut("set(0, " + cell + ", 9)", () -> x.set(0, cell, 9));
        }
    }

    static void promise4NoSuchTableAndNoSuchCellIsRefused() {
        ContractHouse x = Houses.of2x3();
        Checks.indexOut("set(1, 6, 9)", () -> x.set(1, 6, 9));
        Checks.indexOut("set(-1, -1, 9)", () -> x.set(-1, -1, 9));
        Checks.indexOut("set(-1, 27, 9)", () -> x.set(-1, 27, 9));
    }

    // "A cell of a table."

    static void promise4FirstAndLastCellAreTaken() {
        ContractHouse x = Houses.of2x3();
        Checks.done("set(0, 0, 10)", () -> x.set(0, 0, 10));
        Checks.done("set(0, 5, 60)", () -> x.set(0, 5, 60));
        Houses.cells(x, 0, new int[] {0, 1}, 10, 2, 3, 4, 5, 60);
    }

    static void promise4EveryCellOfTheLargestIsTaken() {
        ContractHouse x = Houses.ofSize(3);
        int[] labels = {1, 4, 6};
        Houses.table(x, labels);
        int[] want = new int[27];
        for (int cell = 0; cell < 27; cell++) {
            want[cell] = 100 - cell;
        }
        Houses.fill(x, 0, want);
        Houses.cells(x, 0, labels, want);
    }

    static void promise4OtherTablesKeepTheirCells() {
        ContractHouse x = Houses.ofSize(3);
        int[] labels = {0, 1, 2};
        Houses.table(x, labels);
        Houses.table(x, labels);
        Houses.table(x, labels);
        for (int cell = 0; cell < 27; cell++) {
            x.set(1, cell, 5);
        }
        Houses.cells(x, 0, labels, new int[27]);
        Houses.cells(x, 2, labels, new int[27]);
    }

    static void promise4LastCellOfTheEighthTableIsTaken() {
        ContractHouse x = Houses.ofSize(3);
        int[] labels = {0, 1, 2};
        for (int t = 0; t < 8; t++) {
            Houses.table(x, labels);
        }
        x.set(7, 26, 9);
        int[] want = new int[27];
        want[26] = 9;
        // The second time after values have been worked out.
        Houses.cells(x, 7, labels, want);
        Houses.cells(x, 7, labels, want);
        Houses.cells(x, 6, labels, new int[27]);
    }

    static void promise4SmallestAndLargestIntAreTaken() {
        ContractHouse x = new ContractHouse();
        Houses.table(x, 3);
        Houses.fill(x, 0, MIN, MAX);
        Houses.cells(x, 0, new int[] {3}, MIN, MAX);
    }

    static void promise4LaterSetCounts() {
        ContractHouse x = new ContractHouse();
        Houses.table(x, 3);
        Houses.fill(x, 0, 4, 5);
        Houses.fill(x, 0, 6, 0);
        Houses.cells(x, 0, new int[] {3}, 6, 0);
    }

    static void promise4ValueFollowsASetAfterIt() {
        ContractHouse x = Houses.of2x3();
        Houses.operands(x, 0, 0);
        Checks.due("before", x.value(0), 91);
        x.set(0, 0, 10);
        Checks.due("after", x.value(0), 190);
    }

    // Terms 1: "CELLS are numbered from 0 on, the last label's index going on first."

    static void promise4LastLabelsIndexGoesOnFirst() {
        ContractHouse x = Houses.ofSizes(2, 3, 3);
        Houses.table(x, 0, 1, 2);
        for (int cell = 0; cell < 18; cell++) {
            x.set(0, cell, 1 << cell);
        }
        x.operand(0);
        // Each sum has a bit for each cell that belongs to the index.
        Houses.result(x, 2);
        Houses.values(x, 0b001001001001001001, 0b010010010010010010, 0b100100100100100100);
        Houses.result(x, 1);
        Houses.values(x, 0b000000111000000111, 0b000111000000111000, 0b111000000111000000);
        Houses.result(x, 0);
        Houses.values(x, 0b000000000111111111, 0b111111111000000000);
    }

    static void promise4LabelOfSizeOneMovesNoCell() {
        ContractHouse x = Houses.ofSizes(3, 1, 2);
        Houses.table(x, 0, 1, 2);
        Houses.fill(x, 0, 1, 2, 4, 8, 16, 32);
        x.operand(0);
        Houses.result(x, 0);
        Houses.values(x, 3, 12, 48);
        Houses.result(x, 1);
        Houses.values(x, 63);
        Houses.result(x, 2);
        Houses.values(x, 21, 42);
    }
}
