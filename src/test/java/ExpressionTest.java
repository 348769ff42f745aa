/** Promises 6, 7, 8 and 12: the expression's operands and result labels, and about. */
public final class ExpressionTest {
    private static final int N = ContractHouse.NONE;
    private static final int MIN = Integer.MIN_VALUE;
    private static final int MAX = Integer.MAX_VALUE;

    public static void main(String[] args) {
        operandCountsUpToSix();
        operandRefusesWrongTables();
        resultTellsItsCells();
        resultRefusesWrongLabels();
        resultFollowsTheSizeOfAFreeLabel();
        clearLeavesTheTables();
        aboutTellsAll();
        Checks.end();
    }

    private static void operandCountsUpToSix() {
        ContractHouse x = new ContractHouse();
        x.table(0, N, N);
        x.table(1, N, N);
        for (int o = 0; o < 6; o++) {
            Checks.due("number of an operand", x.operand(o % 2), o);
            Checks.due("operands", x.about(1), o + 1);
            Checks.due("steps", x.about(3), o);
        }
        Checks.unsupported("seventh operand", () -> x.operand(0));
        Checks.indexOut("seventh operand, no such table", () -> x.operand(2));
        Checks.indexOut("seventh operand, no such table", () -> x.operand(-1));
        Checks.due("operands after refusals", x.about(1), 6);
        Checks.due("steps after refusals", x.about(3), 5);
        x.clear();
        Checks.due("number after clear", x.operand(1), 0);
    }

    private static void operandRefusesWrongTables() {
        ContractHouse x = new ContractHouse();
        Checks.indexOut("operand(0) without tables", () -> x.operand(0));
        x.table(0, N, N);
        for (int t : new int[] {-1, 1, 7, 8, MIN, MAX}) {
            Checks.indexOut("operand(" + t + ")", () -> x.operand(t));
        }
        Checks.due("operands after refusals", x.about(1), 0);
        Checks.due("value after refusals", x.value(0), 1);
    }

    private static void resultTellsItsCells() {
        ContractHouse x = new ContractHouse();
        x.size(0, 1);
        x.size(6, 3);
        x.size(7, 3);
        Checks.due("result()", x.result(N, N, N), 1);
        Checks.due("result(0)", x.result(0, N, N), 1);
        Checks.due("result(7)", x.result(7, N, N), 3);
        Checks.due("its bits", x.about(2), 128);
        Checks.due("result(0, 6, 7)", x.result(0, 6, 7), 9);
        Checks.due("its bits", x.about(2), 1 + 64 + 128);
        x.size(5, 3);
        Checks.due("result(5, 6, 7)", x.result(5, 6, 7), 27);
        // A later result takes the place of an earlier one.
        Checks.due("result(1, 2)", x.result(1, 2, N), 4);
        Checks.due("its bits", x.about(2), 2 + 4);
        Checks.indexOut("value(4)", () -> x.value(4));
    }

    private static void resultRefusesWrongLabels() {
        ContractHouse x = new ContractHouse();
        x.result(2, 3, N);
        int[][] wrong = {
            {0, 0, N}, {1, 0, N}, {0, 1, 1}, {0, 2, 1}, {N, 0, N}, {N, N, 0}, {0, N, 1},
            {8, N, N}, {0, 8, N}, {0, 1, 8}, {-2, N, N}, {0, -2, N}, {0, 1, -2}, {N, -2, N},
            {MIN, N, N}, {MAX, N, N}, {0, MAX, N}, {0, 1, MIN},
        };
        for (int[] w : wrong) {
            String text = w[0] + ", " + w[1] + ", " + w[2];
            Checks.illegalArgument("result(" + text + ")", () -> x.result(w[0], w[1], w[2]));
        }
        Checks.due("result labels after refusals", x.about(2), 4 + 8);
        Checks.due("a cell after refusals", x.value(3), 1);
    }

    private static void resultFollowsTheSizeOfAFreeLabel() {
        ContractHouse x = new ContractHouse();
        x.table(0, N, N);
        x.set(0, 0, 4);
        x.set(0, 1, 5);
        x.operand(0);
        x.operand(0);
        Checks.due("cells at size 2", x.result(0, 3, N), 4);
        Checks.due("value(2) at size 2", x.value(2), 25);
        x.size(3, 3);
        Checks.due("value(2) at size 3", x.value(2), 16);
        Checks.due("value(3) at size 3", x.value(3), 25);
        Checks.due("value(5) at size 3", x.value(5), 25);
        Checks.indexOut("value(6) at size 3", () -> x.value(6));
        x.size(3, 1);
        Checks.due("value(1) at size 1", x.value(1), 25);
        Checks.indexOut("value(2) at size 1", () -> x.value(2));
    }

    private static void clearLeavesTheTables() {
        ContractHouse x = new ContractHouse();
        x.size(0, 3);
        x.table(0, 1, N);
        x.set(0, 5, 8);
        x.operand(0);
        x.operand(0);
        x.result(0, N, N);
        Checks.due("value before clear", x.value(2), 64);
        Checks.due("cost before clear", x.cost(), 6);
        x.clear();
        Checks.due("tables", x.about(0), 1);
        Checks.due("operands", x.about(1), 0);
        Checks.due("result labels", x.about(2), 0);
        Checks.due("steps", x.about(3), 0);
        Checks.due("cost", x.cost(), 0);
        Checks.due("value", x.value(0), 1);
        Checks.indexOut("value(1)", () -> x.value(1));
        Checks.indexOut("step(0, 0)", () -> x.step(0, 0));
        Checks.due("extent", x.extent(0), 6);
        x.clear();
        x.operand(0);
        Checks.due("cells after clear", x.value(0), 8);
    }

    private static void aboutTellsAll() {
        ContractHouse x = new ContractHouse();
        x.table(0, N, N);
        x.table(1, N, N);
        x.table(2, N, N);
        x.operand(0);
        Checks.due("steps of one operand", x.about(3), 0);
        x.operand(2);
        x.operand(2);
        x.operand(2);
        x.result(3, 4, 7);
        Checks.due("about(0)", x.about(0), 3);
        Checks.due("about(1)", x.about(1), 4);
        Checks.due("about(2)", x.about(2), 8 + 16 + 128);
        Checks.due("about(3)", x.about(3), 3);
        for (int what : new int[] {-1, 4, 5, MIN, MAX}) {
            Checks.illegalArgument("about(" + what + ")", () -> x.about(what));
        }
    }
}
