/** Promise 6, clear: "The expression has no operands and no result labels." */
public final class Promise06ClearTest {
    public static void main(String[] args) {
        Checks.runAll(Promise06ClearTest.class);
    }

    // "no operands"

    static void promise6NoOperandsAreLeftOfSix() {
        ContractHouse x = filled();
        x.clear();
        Checks.due("about(1)", x.about(1), 0);
        Checks.due("about(3)", x.about(3), 0);
        Checks.due("cost", x.cost(), 0);
        Checks.indexOut("step(0, 0)", () -> x.step(0, 0));
        Checks.due("value(0)", x.value(0), 1);
    }

    static void promise6NextOperandIsNumberZero() {
        ContractHouse x = filled();
        x.clear();
        for (int o = 0; o < 6; o++) {
            Checks.due("number", x.operand(1), o);
        }
        Checks.unsupported("a seventh one", () -> x.operand(1));
    }

    static void promise6ExpressionAfterItKnowsNothingOfTheOneBefore() {
        ContractHouse x = filled();
        x.cost();
        x.value(0);
        x.clear();
        Houses.operands(x, 0, 0);
        Houses.values(x, 91);
        Houses.steps(x, Houses.step(1, 2, 6, 3));
    }

    // "no result labels"

    static void promise6NoResultLabelsAreLeftOfThree() {
        ContractHouse x = new ContractHouse();
        Houses.result(x, 5, 6, 7);
        x.clear();
        Checks.due("about(2)", x.about(2), 0);
        Houses.values(x, 1);
    }

    static void promise6ResultLabelsAreGoneForThePlan() {
        ContractHouse x = Houses.of2x3();
        Houses.table(x);
        Houses.operands(x, 0, 0, 1);
        Houses.result(x, 0, 1);
        Checks.due("cost before", x.cost(), 12);
        x.clear();
        Houses.operands(x, 0, 0, 1);
        Checks.due("cost after", x.cost(), 7);
    }

    static void promise6ResultLabelsAreGoneForTheValue() {
        ContractHouse x = Houses.of2x3();
        x.operand(0);
        Houses.result(x, 0);
        Houses.values(x, 6, 15);
        x.clear();
        x.operand(0);
        Houses.values(x, 21);
    }

    // On what is empty already.

    static void promise6NewObjectMayBeCleared() {
        ContractHouse x = new ContractHouse();
        Checks.done("clear()", x::clear);
        for (int what = 0; what < 4; what++) {
            Checks.due("about(" + what + ")", x.about(what), 0);
        }
        Houses.values(x, 1);
    }

    static void promise6ClearedObjectMayBeClearedAgain() {
        ContractHouse x = filled();
        x.clear();
        Checks.done("clear()", x::clear);
        Checks.due("about(1)", x.about(1), 0);
        Checks.due("about(2)", x.about(2), 0);
        Houses.values(x, 1);
    }

    // It speaks of the expression alone.

    static void promise6TablesAndTheirCellsStay() {
        ContractHouse x = filled();
        x.clear();
        Checks.due("about(0)", x.about(0), 2);
        Checks.due("extent(0)", x.extent(0), 6);
        Checks.due("number of the next table", x.table(2, 3, 4), 2);
        Houses.cells(x, 0, new int[] {0, 1}, 1, 2, 3, 4, 5, 6);
        Houses.cells(x, 1, new int[] {1}, 7, 8, 9);
    }

    static void promise6SizesStay() {
        ContractHouse x = Houses.ofSizes(1, 3, 1, 3, 1, 3, 1, 3);
        x.clear();
        for (int label = 0; label < 8; label++) {
            Checks.due("cells along label " + label, Houses.result(x, label), label % 2 == 0 ? 1 : 3);
        }
    }

    /** Two tables, all six operands, and a result label. */
    private static ContractHouse filled() {
        ContractHouse x = Houses.of2x3();
        Houses.table(x, 1);
        Houses.fill(x, 1, 7, 8, 9);
        Houses.operands(x, 0, 1, 0, 1, 0, 1);
        Houses.result(x, 0);
        return x;
    }
}
