/** Promise 12, about. */
public final class Promise12AboutTest {
    private static final int MIN = Houses.MIN;
    private static final int MAX = Houses.MAX;

    public static void main(String[] args) {
        Checks.runAll(Promise12AboutTest.class);
    }

    // "IllegalArgumentException for another what."

    static void promise12WhatBelowZeroIsRefused() {
        ContractHouse x = Houses.ofTables(1);
        Checks.illegalArgument("about(-1)", () -> x.about(-1));
    }

    static void promise12WhatAboveThreeIsRefused() {
        ContractHouse x = Houses.ofTables(1);
        Checks.illegalArgument("about(4)", () -> x.about(4));
    }

    static void promise12WhatFarOutIsRefused() {
        ContractHouse x = Houses.ofTables(1);
        for (int what : new int[] {MIN, MAX, 5, 256, 1 << 16, -4}) {
            Checks.illegalArgument("about(" + what + ")", () -> x.about(what));
        }
    }

    // "0 tables"

    static void promise12TablesFromNoneToEight() {
        for (int tables = 0; tables <= 8; tables++) {
            Checks.due("about(0)", Houses.ofTables(tables).about(0), tables);
        }
    }

    static void promise12TablesAreNotMoreAfterARefusedOne() {
        ContractHouse x = Houses.ofTables(8);
        Checks.unsupported("a ninth one", () -> x.table(0, 1, 2));
        Checks.due("about(0)", x.about(0), 8);
    }

    // "1 operands"

    static void promise12OperandsFromNoneToSix() {
        ContractHouse x = Houses.ofTables(1);
        for (int operands = 0; operands < 6; operands++) {
            Checks.due("about(1)", x.about(1), operands);
            x.operand(0);
        }
        Checks.due("about(1)", x.about(1), 6);
    }

    static void promise12OperandsAreNotMoreAfterARefusedOne() {
        ContractHouse x = Houses.ofTables(1);
        Houses.operands(x, 0, 0, 0, 0, 0, 0);
        Checks.unsupported("a seventh one", () -> x.operand(0));
        Checks.due("about(1)", x.about(1), 6);
    }

    // "2 result labels as bits"

    static void promise12ResultLabelsFromNoneToThree() {
        ContractHouse x = new ContractHouse();
        Houses.result(x);
        Checks.due("about(2) of none", x.about(2), 0);
        Houses.result(x, 3);
        Checks.due("about(2) of one", x.about(2), 8);
        Houses.result(x, 3, 5);
        Checks.due("about(2) of two", x.about(2), 8 + 32);
        Houses.result(x, 3, 5, 6);
        Checks.due("about(2) of three", x.about(2), 8 + 32 + 64);
    }

    static void promise12EachResultLabelHasItsBit() {
        ContractHouse x = new ContractHouse();
        int[] bits = {1, 2, 4, 8, 16, 32, 64, 128};
        for (int label = 0; label < 8; label++) {
            Houses.result(x, label);
            Checks.due("about(2) of label " + label, x.about(2), bits[label]);
        }
    }

    static void promise12ResultLabelsOfSizeOneHaveTheirBits() {
        ContractHouse x = Houses.ofSize(1);
        Houses.result(x, 0, 7);
        Checks.due("about(2)", x.about(2), 129);
    }

    static void promise12ResultLabelsThatNoOperandHasHaveTheirBits() {
        ContractHouse x = Houses.of2x3();
        x.operand(0);
        Houses.result(x, 1, 7);
        Checks.due("about(2)", x.about(2), 130);
    }

    // "3 steps"

    static void promise12StepsOfNoneAndOfOneOperandAreNone() {
        ContractHouse x = Houses.ofTables(1);
        Checks.due("about(3) of none", x.about(3), 0);
        x.operand(0);
        Checks.due("about(3) of one", x.about(3), 0);
    }

    static void promise12StepsOfTwoToSixOperands() {
        ContractHouse x = Houses.ofTables(1);
        x.operand(0);
        for (int steps = 1; steps <= 5; steps++) {
            x.operand(0);
            Checks.due("about(3)", x.about(3), steps);
        }
    }

    static void promise12AllFourOfAFullObject() {
        ContractHouse x = Houses.ofTables(8);
        Houses.operands(x, 7, 6, 5, 4, 3, 2);
        Houses.result(x, 5, 6, 7);
        Checks.due("about(0)", x.about(0), 8);
        Checks.due("about(1)", x.about(1), 6);
        Checks.due("about(2)", x.about(2), 32 + 64 + 128);
        Checks.due("about(3)", x.about(3), 5);
    }
}
