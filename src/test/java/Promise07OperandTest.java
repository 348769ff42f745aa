/** Promise 7, operand. */
public final class Promise07OperandTest {
    private static final int MIN = Houses.MIN;
    private static final int MAX = Houses.MAX;

    public static void main(String[] args) {
        Checks.runAll(Promise07OperandTest.class);
    }

    // "IndexOutOfBoundsException if there is no such table"

    static void promise7TableBelowTheFirstIsRefused() {
        ContractHouse x = Houses.ofTables(2);
        Checks.indexOut("operand(-1)", () -> x.operand(-1));
    }

    static void promise7TableBehindTheLastIsRefused() {
        for (int tables = 0; tables <= 8; tables++) {
            ContractHouse x = Houses.ofTables(tables);
            int t = tables;
            Checks.indexOut("operand(" + t + ")", () -> x.operand(t));
        }
    }

    static void promise7TableFarOutIsRefused() {
        ContractHouse x = Houses.ofTables(8);
        for (int t : new int[] {MIN, MAX, 9, 256, 1 << 16, -8}) {
            Checks.indexOut("operand(" + t + ")", () -> x.operand(t));
        }
    }

    static void promise7FirstAndLastTableAreTaken() {
        ContractHouse x = Houses.ofTables(8);
        x.set(0, 0, 3);
        x.set(7, 0, 5);
        Checks.due("operand(0)", x.operand(0), 0);
        Checks.due("value", x.value(0), 3);
        Checks.due("operand(7)", x.operand(7), 1);
        Checks.due("value", x.value(0), 15);
    }

    // "UnsupportedOperationException if there are six."

    static void promise7SixthOperandIsTaken() {
        ContractHouse x = withOperands(5);
        Checks.due("operand(0)", x.operand(0), 5);
        Checks.due("about(1)", x.about(1), 6);
        Checks.due("value", x.value(0), 64);
    }

    static void promise7SeventhOperandIsRefused() {
        ContractHouse x = withOperands(6);
        Checks.unsupported("operand(0)", () -> x.operand(0));
        Checks.unsupported("operand(0), again", () -> x.operand(0));
        Checks.due("about(1)", x.about(1), 6);
        Checks.due("value", x.value(0), 64);
    }

    static void promise7SeventhOperandOfNoSuchTableIsAnIndexOutOfBounds() {
        ContractHouse x = withOperands(6);
        Checks.indexOut("operand(1)", () -> x.operand(1));
        Checks.indexOut("operand(-1)", () -> x.operand(-1));
    }

    static void promise7EighthTablesOperandIsNotTheSeventhOperand() {
        ContractHouse x = Houses.ofTables(8);
        Houses.operands(x, 7, 6, 5, 4, 3);
        Checks.due("operand(2)", x.operand(2), 5);
        Checks.unsupported("operand(1)", () -> x.operand(1));
    }

    // "An operand more: its number": "numbered from 0 as they come; the same table may come again"

    static void promise7NumbersCountFromZeroToFive() {
        ContractHouse x = Houses.ofTables(3);
        for (int o = 0; o < 6; o++) {
            Checks.due("number", x.operand(2 - o % 3), o);
            Checks.due("about(1)", x.about(1), o + 1);
        }
    }

    static void promise7NumberDoesNotCountRefusedOperands() {
        ContractHouse x = Houses.ofTables(1);
        Checks.indexOut("operand(1)", () -> x.operand(1));
        Checks.due("number", x.operand(0), 0);
    }

    static void promise7SameTableMayComeSixTimes() {
        ContractHouse x = Houses.of2x3();
        int[] sums = {21, 91, 441, 2275, 12201, 67171};
        for (int o = 0; o < 6; o++) {
            Checks.due("number", x.operand(0), o);
            Checks.due("sum of powers", x.value(0), sums[o]);
        }
    }

    static void promise7OperandsStandInTheOrderInWhichTheyCame() {
        ContractHouse x = new ContractHouse();
        Houses.table(x, 0);
        Houses.table(x, 1, 2);
        Houses.operands(x, 1, 0);
        Houses.result(x, 0, 1, 2);
        Houses.steps(x, Houses.step(1, 2, 8, 7));
        x.operand(1);
        // The two that are alike are operands 0 and 2.
        Houses.steps(x, Houses.step(1, 4, 4, 6), Houses.step(5, 2, 8, 7));
    }

    static void promise7CellsSetLaterCount() {
        ContractHouse x = Houses.ofTables(1);
        x.operand(0);
        x.set(0, 0, 8);
        Checks.due("value", x.value(0), 8);
    }

    static void promise7ResultLabelsStay() {
        ContractHouse x = Houses.of2x3();
        Houses.result(x, 1);
        x.operand(0);
        Checks.due("about(2)", x.about(2), 2);
        Houses.values(x, 5, 7, 9);
    }

    /** Table 0 has one cell, 2. */
    private static ContractHouse withOperands(int operands) {
        ContractHouse x = Houses.ofTables(1);
        x.set(0, 0, 2);
        Houses.operands(x, new int[operands]);
        return x;
    }
}
