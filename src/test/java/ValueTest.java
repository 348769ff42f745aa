/** Promise 11: what comes of an expression, worked out by hand. */
public final class ValueTest {
    private static final int N = ContractHouse.NONE;
    private static final int MIN = Integer.MIN_VALUE;

    public static void main(String[] args) {
        withoutOperandsItIsOne();
        oneOperandIsSummed();
        matrixProduct();
        traceAndSquares();
        productsWrap();
        sameTableAgain();
        labelThatNoOperandHasRepeats();
        valueFollowsSet();
        largestExpression();
        valueRefusesWrongCells();
        Checks.end();
    }

    private static void withoutOperandsItIsOne() {
        ContractHouse x = new ContractHouse();
        Checks.due("value(0)", x.value(0), 1);
        x.size(0, 3);
        x.size(1, 3);
        x.size(2, 3);
        x.result(0, 1, 2);
        for (int i = 0; i < 27; i++) {
            Checks.due("value(" + i + ")", x.value(i), 1);
        }
        Checks.indexOut("value(27)", () -> x.value(27));
    }

    private static void oneOperandIsSummed() {
        ContractHouse x = house2x3();
        x.operand(0);
        Checks.due("sum of all", x.value(0), 21);
        x.result(0, N, N);
        Checks.due("row 0", x.value(0), 6);
        Checks.due("row 1", x.value(1), 15);
        x.result(1, N, N);
        Checks.due("column 0", x.value(0), 5);
        Checks.due("column 2", x.value(2), 9);
        x.result(0, 1, N);
        Checks.due("as it is", x.value(4), 5);
    }

    /** 2x3 with 3x2. */
    private static void matrixProduct() {
        ContractHouse x = house2x3();
        x.table(1, 2, N);
        for (int cell = 0; cell < 6; cell++) {
            x.set(1, cell, 7 + cell);
        }
        x.operand(0);
        x.operand(1);
        Checks.due("cells", x.result(0, 2, N), 4);
        int[] want = {58, 64, 139, 154};
        for (int i = 0; i < 4; i++) {
            Checks.due("value(" + i + ")", x.value(i), want[i]);
        }
        x.result(0, 1, 2);
        Checks.due("before summing, (1, 2, 0)", x.value(10), 6 * 11);
    }

    private static void traceAndSquares() {
        ContractHouse x = house2x3();
        x.operand(0);
        x.operand(0);
        Checks.due("sum of squares", x.value(0), 1 + 4 + 9 + 16 + 25 + 36);
        x.operand(0);
        Checks.due("sum of cubes", x.value(0), 441);
        x.result(0, N, N);
        Checks.due("cubes of row 0", x.value(0), 36);
    }

    private static void productsWrap() {
        ContractHouse x = new ContractHouse();
        x.table(0, N, N);
        x.set(0, 0, MIN);
        x.set(0, 1, MIN);
        x.operand(0);
        Checks.due("a sum that wraps", x.value(0), 0);
        x.set(0, 1, 3);
        x.operand(0);
        Checks.due("a product that wraps", x.value(0), 9);
        x.set(0, 0, 65537);
        Checks.due("a square that wraps", x.value(0), 131073 + 9);
        x.set(0, 0, Integer.MAX_VALUE);
        x.set(0, 1, Integer.MAX_VALUE);
        Checks.due("two squares", x.value(0), 2);
        x.operand(0);
        Checks.due("two cubes", x.value(0), -2);
    }

    private static void sameTableAgain() {
        ContractHouse x = new ContractHouse();
        x.table(N, N, N);
        x.set(0, 0, -3);
        int power = 1;
        for (int o = 0; o < 6; o++) {
            Checks.due("power " + o, x.value(0), power);
            x.operand(0);
            power *= -3;
        }
        Checks.due("power 6", x.value(0), 729);
    }

    private static void labelThatNoOperandHasRepeats() {
        ContractHouse x = house2x3();
        x.size(5, 3);
        x.operand(0);
        x.result(0, 5, N);
        int[] want = {6, 6, 6, 15, 15, 15};
        for (int i = 0; i < 6; i++) {
            Checks.due("value(" + i + ") of one", x.value(i), want[i]);
        }
        x.operand(0);
        int[] squares = {14, 14, 14, 77, 77, 77};
        for (int i = 0; i < 6; i++) {
            Checks.due("value(" + i + ") of two", x.value(i), squares[i]);
        }
    }

    private static void valueFollowsSet() {
        ContractHouse x = house2x3();
        x.operand(0);
        x.operand(0);
        Checks.due("before set", x.value(0), 91);
        x.set(0, 0, 10);
        Checks.due("after set", x.value(0), 190);
        x.table(0, N, N);
        Checks.due("after table", x.value(0), 190);
        x.operand(1);
        Checks.due("after operand", x.value(0), 0);
        x.set(1, 1, 2);
        Checks.due("after another set", x.value(0), 2 * 77);
        x.result(0, N, N);
        Checks.due("after result", x.value(1), 2 * 77);
        Checks.due("after result, other cell", x.value(0), 0);
    }

    /** Six operands, eight labels of size 3, all cells 1: the value counts the choices. */
    private static void largestExpression() {
        ContractHouse x = new ContractHouse();
        for (int label = 0; label < 8; label++) {
            x.size(label, 3);
        }
        int[][] labels = {{0, 1, 2}, {3, 4, 5}, {0, 3, 6}, {1, 4, 7}, {2, 5, 6}, {0, 5, 7}};
        for (int t = 0; t < 6; t++) {
            x.table(labels[t][0], labels[t][1], labels[t][2]);
            for (int cell = 0; cell < 27; cell++) {
                x.set(t, cell, 1);
            }
            x.operand(t);
        }
        Checks.due("all choices", x.value(0), 6561);
        x.result(0, 4, 7);
        for (int i = 0; i < 27; i++) {
            Checks.due("choices for " + i, x.value(i), 243);
        }
    }

    private static void valueRefusesWrongCells() {
        ContractHouse x = house2x3();
        x.operand(0);
        for (int i : new int[] {-1, 1, 27, MIN, Integer.MAX_VALUE}) {
            Checks.indexOut("value(" + i + ") of one cell", () -> x.value(i));
        }
        x.result(0, 1, N);
        for (int i : new int[] {-1, 6, 27, MIN, Integer.MAX_VALUE}) {
            Checks.indexOut("value(" + i + ") of six cells", () -> x.value(i));
        }
    }

    /** Table 0 has labels 0 (2) and 1 (3), and the cells 1 to 6. */
    private static ContractHouse house2x3() {
        ContractHouse x = new ContractHouse();
        x.size(1, 3);
        x.table(0, 1, N);
        for (int cell = 0; cell < 6; cell++) {
            x.set(0, cell, cell + 1);
        }
        return x;
    }
}
