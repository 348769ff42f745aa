/** Promise 1, a new object: "No tables, no operands, no result labels." */
public final class Promise01NewObjectTest {
    private static final int N = Houses.N;

    public static void main(String[] args) {
        Checks.runAll(Promise01NewObjectTest.class);
    }

    // "No tables"

    static void promise1NewObjectHasNoTables() {
        ContractHouse x = new ContractHouse();
        Checks.due("about(0)", x.about(0), 0);
        Checks.indexOut("extent(0)", () -> x.extent(0));
        Checks.indexOut("set(0, 0, 1)", () -> x.set(0, 0, 1));
        Checks.indexOut("operand(0)", () -> x.operand(0));
    }

    static void promise1NewObjectHasRoomForAllTables() {
        ContractHouse x = new ContractHouse();
        for (int t = 0; t < 8; t++) {
            Checks.due("number", x.table(N, N, N), t);
        }
    }

    // "no operands"

    static void promise1NewObjectHasNoOperands() {
        ContractHouse x = new ContractHouse();
        Checks.due("about(1)", x.about(1), 0);
        Checks.due("about(3)", x.about(3), 0);
        Checks.due("cost", x.cost(), 0);
        Checks.due("value(0)", x.value(0), 1);
        Checks.indexOut("step(0, 0)", () -> x.step(0, 0));
    }

    static void promise1NewObjectHasRoomForAllOperands() {
        ContractHouse x = Houses.ofTables(1);
        for (int o = 0; o < 6; o++) {
            Checks.due("number", x.operand(0), o);
        }
    }

    // "no result labels"

    static void promise1NewObjectHasNoResultLabels() {
        ContractHouse x = new ContractHouse();
        Checks.due("about(2)", x.about(2), 0);
        Houses.values(x, 1);
    }

    // Terms 1: "There are eight LABELS, 0 .. 7, each with a SIZE, 1 .. 3 (2 at first)."

    static void promise1EveryLabelOfANewObjectHasSizeTwo() {
        ContractHouse x = new ContractHouse();
        for (int label = 0; label < 8; label++) {
            Checks.due("cells along label " + label, Houses.result(x, label), 2);
        }
    }

    // "NONE = -1"

    static void promise1NoneIsMinusOne() {
        Checks.due("NONE", ContractHouse.NONE, -1);
    }

    static void promise1NewObjectIsEmptyAfterAnotherWasFilled() {
        ContractHouse full = Houses.ofSize(3);
        Houses.table(full, 0, 1, 2);
        full.set(0, 0, 5);
        Houses.operands(full, 0, 0);
        Houses.result(full, 0, 1);
        ContractHouse x = new ContractHouse();
        for (int what = 0; what < 4; what++) {
            Checks.due("about(" + what + ")", x.about(what), 0);
        }
        Houses.values(x, 1);
        Houses.table(x, 0, 1, 2);
        Checks.due("extent of the new one's table", x.extent(0), 8);
        x.set(0, 0, 7);
        full.clear();
        full.operand(0);
        Checks.due("the other one's cells", full.value(0), 5);
    }
}
