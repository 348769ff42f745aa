/** Promise 11, value, and what Terms 1 says of what comes of an expression. */
public final class Promise11ValueTest {
    private static final int MIN = Houses.MIN;
    private static final int MAX = Houses.MAX;

    public static void main(String[] args) {
        Checks.runAll(Promise11ValueTest.class);
    }

    // "IndexOutOfBoundsException if there is no such one."

    static void promise11CellBelowTheFirstIsRefused() {
        ContractHouse x = Houses.of2x3();
        Checks.indexOut("value(-1) without operands", () -> x.value(-1));
        x.operand(0);
        Checks.indexOut("value(-1) of one operand", () -> x.value(-1));
        x.operand(0);
        Houses.result(x, 0, 1);
        Checks.indexOut("value(-1) of two operands", () -> x.value(-1));
    }

    static void promise11CellBehindTheOnlyOneIsRefused() {
        ContractHouse x = Houses.of2x3();
        Checks.indexOut("value(1) without operands", () -> x.value(1));
        x.operand(0);
        Checks.indexOut("value(1) of one operand", () -> x.value(1));
        x.operand(0);
        Checks.indexOut("value(1) of two operands", () -> x.value(1));
    }

    static void promise11CellBehindTheLastIsRefused() {
        ContractHouse x = Houses.of2x3();
        Houses.operands(x, 0, 0);
        Houses.result(x, 0);
        Checks.indexOut("value(2)", () -> x.value(2));
        Houses.result(x, 1);
        Checks.indexOut("value(3)", () -> x.value(3));
        Houses.result(x, 0, 1);
        Checks.indexOut("value(6)", () -> x.value(6));
        Houses.result(x, 0, 1, 2);
        Checks.indexOut("value(12)", () -> x.value(12));
    }

    static void promise11CellBehindTheLastOf27IsRefused() {
        ContractHouse x = Houses.ofSize(3);
        Houses.result(x, 0, 1, 2);
        Checks.indexOut("value(27)", () -> x.value(27));
    }

    static void promise11CellFarOutIsRefused() {
        ContractHouse x = Houses.of2x3();
        Houses.operands(x, 0, 0);
        Houses.result(x, 0, 1);
        for (int i : new int[] {MIN, MAX, 27, 256, 1 << 16, -6}) {
            Checks.indexOut("value(" + i + ")", () -> x.value(i));
        }
    }

    static void promise11CellOfAnEarlierResultIsRefused() {
        ContractHouse x = Houses.of2x3();
        x.operand(0);
        Houses.result(x, 0, 1);
        Checks.due("value(5)", x.value(5), 6);
        Houses.result(x, 0);
        Checks.indexOut("value(5) afterwards", () -> x.value(5));
    }

    static void promise11FirstAndLastCellAnswer() {
        ContractHouse x = Houses.of2x3();
        x.operand(0);
        Houses.result(x, 0, 1);
        Checks.due("value(0)", x.value(0), 1);
        Checks.due("value(5)", x.value(5), 6);
    }

    // "(1 without operands)"

    static void promise11WithoutOperandsItIsOne() {
        Houses.values(new ContractHouse(), 1);
    }

    static void promise11WithoutOperandsEveryCellIsOne() {
        ContractHouse x = Houses.ofSize(3);
        Houses.result(x, 0, 4, 7);
        for (int i = 0; i < 27; i++) {
            Checks.due("value(" + i + ")", x.value(i), 1);
        }
    }

    static void promise11WithoutOperandsTablesDoNotCount() {
        ContractHouse x = Houses.of2x3();
        Houses.result(x, 0);
        Houses.values(x, 1, 1);
    }

    static void promise11WithoutOperandsItIsOneAgainAfterClear() {
        ContractHouse x = Houses.of2x3();
        Houses.operands(x, 0, 0);
        Houses.values(x, 91);
        x.clear();
        Houses.values(x, 1);
        Houses.result(x, 0);
        Houses.values(x, 1, 1);
    }

    // "the sum, over all choices of indexes of all other labels that operands have"

    static void promise11OneOperandWithoutResultLabelsIsSummedWhole() {
        ContractHouse x = Houses.of2x3();
        x.operand(0);
        Houses.values(x, 21);
    }

    static void promise11OneOperandIsSummedAlongItsOtherLabels() {
        ContractHouse x = Houses.of2x3();
        x.operand(0);
        Houses.result(x, 0);
        Houses.values(x, 6, 15);
        Houses.result(x, 1);
        Houses.values(x, 5, 7, 9);
    }

    static void promise11WithoutOtherLabelsNothingIsSummed() {
        ContractHouse x = Houses.of2x3();
        x.operand(0);
        Houses.result(x, 0, 1);
        Houses.values(x, 1, 2, 3, 4, 5, 6);
        x.operand(0);
        Houses.values(x, 1, 4, 9, 16, 25, 36);
    }

    static void promise11TableWithoutLabelsIsItsCell() {
        ContractHouse x = Houses.ofTables(1);
        x.operand(0);
        Houses.values(x, 0);
        x.set(0, 0, -9);
        Houses.values(x, -9);
    }

    static void promise11LabelsOfSizeOneAreSummedOverTheirOnlyIndex() {
        ContractHouse x = Houses.ofSize(1);
        Houses.table(x, 0, 1, 2);
        Houses.table(x, 2, 3, 4);
        x.set(0, 0, 3);
        x.set(1, 0, 5);
        Houses.operands(x, 0, 1);
        Houses.values(x, 15);
    }

    static void promise11ResultLabelThatNoOperandHasIsNotSummedOver() {
        ContractHouse x = Houses.of2x3();
        x.size(5, 3);
        x.operand(0);
        Houses.result(x, 0, 5);
        Houses.values(x, 6, 6, 6, 15, 15, 15);
        x.operand(0);
        Houses.values(x, 14, 14, 14, 77, 77, 77);
    }

    static void promise11LabelThatNeitherOperandNorResultHasIsNotSummedOver() {
        ContractHouse x = Houses.of2x3();
        Houses.table(x, 6, 7);
        Houses.operands(x, 0, 0);
        Houses.values(x, 91);
    }

    static void promise11LabelOfOneOperandAloneIsSummedOver() {
        ContractHouse x = new ContractHouse();
        Houses.table(x, 0);
        Houses.table(x, 1);
        Houses.fill(x, 0, 2, 3);
        Houses.fill(x, 1, 10, 100);
        Houses.operands(x, 0, 1);
        Houses.values(x, 550);
    }

    static void promise11LabelOfAllOperandsIsSummedOverOnce() {
        ContractHouse x = new ContractHouse();
        Houses.table(x, 7);
        Houses.fill(x, 0, 2, 3);
        Houses.operands(x, 0, 0, 0, 0, 0, 0);
        Houses.values(x, 64 + 729);
    }

    // "of the products of the operands' cells at the indexes of their labels"

    static void promise11MatrixProduct() {
        ContractHouse x = Houses.of2x3();
        Houses.table(x, 1, 2);
        Houses.fill(x, 1, 7, 8, 9, 10, 11, 12);
        Houses.operands(x, 0, 1);
        Houses.result(x, 0, 2);
        Houses.values(x, 58, 64, 139, 154);
        Houses.result(x, 0, 1, 2);
        Houses.values(x, 7, 8, 18, 20, 33, 36, 28, 32, 45, 50, 66, 72);
    }

    static void promise11OrderOfOperandsDoesNotMatter() {
        ContractHouse x = Houses.of2x3();
        Houses.table(x, 1, 2);
        Houses.fill(x, 1, 7, 8, 9, 10, 11, 12);
        Houses.operands(x, 1, 0);
        Houses.result(x, 0, 2);
        Houses.values(x, 58, 64, 139, 154);
    }

    static void promise11OneZeroCellMakesAProductZero() {
        ContractHouse x = Houses.ofTables(2);
        x.set(0, 0, 7);
        Houses.operands(x, 0, 0, 0, 0, 0, 1);
        Houses.values(x, 0);
    }

    static void promise11PairsThatAreJoinedFirstKeepTheLabelsBetweenThem() {
        ContractHouse x = new ContractHouse();
        Houses.table(x, 0, 1, 2);
        Houses.table(x, 2, 3, 4);
        Houses.fill(x, 0, 1, 2, 3, 4, 5, 6, 7, 8);
        Houses.fill(x, 1, 1, -1, 2, -2, 3, -3, 4, -4);
        Houses.operands(x, 0, 1, 0, 1);
        // Along label 2: 1 + 9 + 25 + 49 with 1 + 1 + 4 + 4, and 4 + 16 + 36 + 64 with 9 + 9 + 16 + 16.
        Houses.values(x, 84 * 10 + 120 * 50);
        Houses.result(x, 2);
        Houses.values(x, 840, 6000);
    }

    // "What comes of it has a cell for each choice of indexes of these, numbered likewise"

    static void promise11LastResultLabelsIndexGoesOnFirst() {
        ContractHouse x = Houses.ofSizes(2, 3, 2);
        Houses.table(x, 2);
        Houses.table(x, 1);
        Houses.table(x, 0);
        Houses.fill(x, 0, 1, 2);
        Houses.fill(x, 1, 10, 20, 30);
        Houses.fill(x, 2, 100, 200);
        Houses.operands(x, 0, 1, 2);
        Houses.result(x, 0, 1, 2);
        Houses.values(x, 1000, 2000, 2000, 4000, 3000, 6000, 2000, 4000, 4000, 8000, 6000, 12000);
    }

    static void promise11All27CellsOfTheLargestResult() {
        ContractHouse x = Houses.ofSize(3);
        Houses.table(x, 5, 6, 7);
        int[] cells = new int[27];
        int[] squares = new int[27];
        for (int i = 0; i < 27; i++) {
            cells[i] = i - 13;
            squares[i] = (i - 13) * (i - 13);
        }
        Houses.fill(x, 0, cells);
        x.operand(0);
        Houses.result(x, 5, 6, 7);
        Houses.values(x, cells);
        x.operand(0);
        Houses.values(x, squares);
    }

    static void promise11SixOperandsOverAllEightLabels() {
        ContractHouse x = Houses.ofSize(3);
        int[][] labels = {{0, 1, 2}, {3, 4, 5}, {0, 3, 6}, {1, 4, 7}, {2, 5, 6}, {0, 5, 7}};
        for (int t = 0; t < 6; t++) {
            Houses.table(x, labels[t]);
            for (int cell = 0; cell < 27; cell++) {
                x.set(t, cell, 1);
            }
            x.operand(t);
        }
        // All products are 1, so the sum counts the choices.
        Houses.values(x, 6561);
        Houses.result(x, 0, 4, 7);
        for (int i = 0; i < 27; i++) {
            Checks.due("value(" + i + ")", x.value(i), 243);
        }
    }

    static void promise11DearestPlanAsTheModelHasIt() {
        ContractHouse x = Houses.ofDearestPlan();
        Model model = new Model();
        for (int label = 0; label < 8; label++) {
            model.size(label, 3);
        }
        for (int t = 0; t < 6; t++) {
            int[] labels = Houses.DEAREST[t];
            model.operand(model.table(labels[0], labels[1], labels[2]));
            for (int cell = 0; cell < 27; cell++) {
                int v = (cell + 1) * (t + 3) % 11 - 5;
                x.set(t, cell, v);
                model.set(t, cell, v);
            }
        }
        model.result(0, 3, 6);
        for (int i = 0; i < 27; i++) {
            Checks.due("value(" + i + ")", x.value(i), model.value(i));
        }
        // A second time with what the first one left behind.
        x.set(5, 26, 1000);
        model.set(5, 26, 1000);
        for (int i = 0; i < 27; i++) {
            Checks.due("value(" + i + ") again", x.value(i), model.value(i));
        }
    }

    // "Ints wrap."

    static void promise11SumAboveTheLargestIntWraps() {
        ContractHouse x = new ContractHouse();
        Houses.table(x, 0);
        Houses.fill(x, 0, MAX, 1);
        x.operand(0);
        Houses.values(x, MIN);
    }

    static void promise11SumBelowTheSmallestIntWraps() {
        ContractHouse x = new ContractHouse();
        Houses.table(x, 0);
        Houses.fill(x, 0, MIN, -1);
        x.operand(0);
        Houses.values(x, MAX);
        x.set(0, 1, MIN);
        Houses.values(x, 0);
    }

    static void promise11SumThatWrapsThereAndBackIsWhole() {
        ContractHouse x = Houses.ofSizes(3);
        Houses.table(x, 0);
        Houses.fill(x, 0, MAX, 2, -3);
        x.operand(0);
        Houses.values(x, MAX - 1);
    }

    static void promise11ProductAboveTheLargestIntWraps() {
        Houses.values(ofProduct(46341, 46341), -2147479015);
        Houses.values(ofProduct(65537, 65537), 131073);
        Houses.values(ofProduct(MAX, MAX), 1);
        Houses.values(ofProduct(MAX, 2), -2);
    }

    static void promise11ProductBelowTheSmallestIntWraps() {
        Houses.values(ofProduct(46341, -46341), 2147479015);
        Houses.values(ofProduct(MIN, 3), MIN);
        Houses.values(ofProduct(MIN, MAX), MIN);
    }

    static void promise11ProductThatWrapsToZero() {
        Houses.values(ofProduct(65536, 65536), 0);
        Houses.values(ofProduct(MIN, 2), 0);
        Houses.values(ofProduct(MIN, MIN), 0);
    }

    static void promise11SmallestIntTimesMinusOneWraps() {
        Houses.values(ofProduct(MIN, -1), MIN);
    }

    static void promise11ProductOfSixWraps() {
        Houses.values(ofProduct(MAX, MAX, MAX, MAX, MAX, MAX), 1);
        Houses.values(ofProduct(MAX, MAX, MAX, MAX, MAX, 1), MAX);
        Houses.values(ofProduct(100, 100, 100, 100, 100, 100), -727379968);
    }

    static void promise11SumsWrapInEveryStep() {
        ContractHouse x = new ContractHouse();
        Houses.table(x, 0);
        Houses.fill(x, 0, MAX, MAX);
        Houses.operands(x, 0, 0);
        Houses.values(x, 2);
        x.operand(0);
        Houses.values(x, -2);
    }

    // "of the expression": as it is now

    static void promise11ValueFollowsEveryChangeAfterIt() {
        ContractHouse x = Houses.of2x3();
        Houses.operands(x, 0, 0);
        Houses.values(x, 91);
        x.set(0, 0, 10);
        Houses.values(x, 190);
        Houses.table(x, 0);
        Houses.values(x, 190);
        x.operand(1);
        Houses.values(x, 0);
        x.set(1, 1, 2);
        Houses.values(x, 154);
        Houses.result(x, 0);
        Houses.values(x, 0, 154);
        x.clear();
        Houses.values(x, 1);
        x.operand(1);
        Houses.values(x, 2);
    }

    static void promise11ValueMayBeAskedAgainAndInAnyOrder() {
        ContractHouse x = Houses.of2x3();
        Houses.operands(x, 0, 0);
        Houses.result(x, 1);
        for (int i : new int[] {2, 0, 1, 1, 0, 2}) {
            Checks.due("value(" + i + ")", x.value(i), new int[] {17, 29, 45}[i]);
        }
    }

    static void promise11QuestionsChangeNoValue() {
        ContractHouse x = Houses.of2x3();
        Houses.operands(x, 0, 0, 0);
        x.cost();
        x.step(1, 0);
        x.about(3);
        x.extent(0);
        Houses.values(x, 441);
    }

    /** An operand of one cell for each factor. */
    private static ContractHouse ofProduct(int... factors) {
        ContractHouse x = Houses.ofTables(factors.length);
        for (int t = 0; t < factors.length; t++) {
            x.set(t, 0, factors[t]);
            x.operand(t);
        }
        return x;
    }
}
