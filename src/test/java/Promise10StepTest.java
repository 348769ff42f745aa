/** Promise 10, step, and what Terms 2 says of the plan and its steps. */
public final class Promise10StepTest {
    private static final int MIN = Houses.MIN;
    private static final int MAX = Houses.MAX;

    public static void main(String[] args) {
        Checks.runAll(Promise10StepTest.class);
    }

    // "IndexOutOfBoundsException if there is no such step"

    static void promise10NoStepWithoutOperands() {
        ContractHouse x = Houses.ofTables(1);
        noStep(x, 0);
        noStep(x, -1);
    }

    static void promise10NoStepOfOneOperand() {
        ContractHouse x = Houses.ofTables(1);
        x.operand(0);
        noStep(x, 0);
        noStep(x, -1);
    }

    static void promise10NoStepBelowTheFirst() {
        for (int operands = 2; operands <= 6; operands++) {
            noStep(ofOperands(operands), -1);
        }
    }

    static void promise10NoStepBehindTheLast() {
        for (int operands = 2; operands <= 6; operands++) {
            noStep(ofOperands(operands), operands - 1);
            noStep(ofOperands(operands), operands);
        }
    }

    static void promise10NoStepFarOut() {
        ContractHouse x = ofOperands(6);
        for (int k : new int[] {MIN, MAX, 63, 256, 1 << 16, -5}) {
            noStep(x, k);
        }
    }

    static void promise10NoStepAfterClear() {
        ContractHouse x = ofOperands(6);
        x.step(4, 0);
        x.clear();
        noStep(x, 0);
    }

    static void promise10FirstAndLastStepAnswer() {
        ContractHouse x = ofOperands(6);
        Checks.due("step(0, 0)", x.step(0, 0), 16);
        Checks.due("step(4, 0)", x.step(4, 0), 1);
        Checks.due("step(4, 1)", x.step(4, 1), 62);
    }

    static void promise10OnlyStepOfTwoOperands() {
        ContractHouse x = Houses.of2x3();
        Houses.operands(x, 0, 0);
        Houses.steps(x, Houses.step(1, 2, 6, 3));
    }

    // "IllegalArgumentException for another what."

    static void promise10WhatBelowZeroIsRefused() {
        ContractHouse x = ofOperands(3);
        Checks.illegalArgument("step(0, -1)", () -> x.step(0, -1));
        Checks.illegalArgument("step(1, -1)", () -> x.step(1, -1));
    }

    static void promise10WhatAboveThreeIsRefused() {
        ContractHouse x = ofOperands(3);
        Checks.illegalArgument("step(0, 4)", () -> x.step(0, 4));
        Checks.illegalArgument("step(1, 4)", () -> x.step(1, 4));
    }

    static void promise10WhatFarOutIsRefused() {
        ContractHouse x = ofOperands(3);
        for (int what : new int[] {MIN, MAX, 5, 256, 1 << 16, -4}) {
            Checks.illegalArgument("step(0, " + what + ")", () -> x.step(0, what));
        }
    }

    static void promise10NoSuchStepAndAnotherWhatIsAnIndexOutOfBounds() {
        ContractHouse x = ofOperands(3);
        Checks.indexOut("step(2, 4)", () -> x.step(2, 4));
        Checks.indexOut("step(-1, -1)", () -> x.step(-1, -1));
        ContractHouse empty = new ContractHouse();
        Checks.indexOut("step(0, 4) without operands", () -> empty.step(0, 4));
    }

    // "the part that has the lowest operand (what = 0), the other one (1), as bits"

    static void promise10LowestOperandsPartMayBeTheGreaterOneAsBits() {
        ContractHouse x = new ContractHouse();
        Houses.table(x, 0, 1, 2);
        Houses.table(x, 5);
        Houses.operands(x, 0, 1, 0);
        Houses.steps(x, Houses.step(1, 4, 8, 7), Houses.step(5, 2, 2, 32));
    }

    static void promise10LowestOperandIsThatOfTheStepNotOfAll() {
        ContractHouse x = new ContractHouse();
        Houses.table(x);
        Houses.table(x, 4);
        Houses.operands(x, 0, 1, 0, 0, 1);
        Houses.steps(x, Houses.step(2, 16, 2, 16), Houses.step(4, 8, 1, 0),
                Houses.step(18, 12, 1, 0), Houses.step(1, 30, 1, 0));
    }

    // "what the join costs (2), the labels that the one or the other of these two parts leaves, as
    // bits (3)"

    static void promise10LabelsOfSizeOneAreAmongTheLabels() {
        ContractHouse x = Houses.ofSize(1);
        Houses.table(x, 0, 1);
        Houses.table(x, 1, 7);
        Houses.operands(x, 0, 1);
        Houses.steps(x, Houses.step(1, 2, 1, 1 + 2 + 128));
    }

    static void promise10JoinWithoutLabels() {
        ContractHouse x = Houses.ofTables(1);
        Houses.operands(x, 0, 0);
        Houses.steps(x, Houses.step(1, 2, 1, 0));
    }

    static void promise10LabelsThatNeitherPartLeavesAreNotAmongThem() {
        ContractHouse x = new ContractHouse();
        Houses.table(x, 0, 1, 2);
        Houses.table(x, 3, 4, 5);
        Houses.operands(x, 0, 0, 1);
        // 0 with 1 leaves nothing, and 2 leaves its own.
        Houses.steps(x, Houses.step(1, 2, 8, 7), Houses.step(3, 4, 8, 56));
    }

    static void promise10ResultLabelsThatNoOperandHasAreNotAmongThem() {
        ContractHouse x = Houses.ofSize(3);
        Houses.table(x, 0);
        Houses.operands(x, 0, 0);
        Houses.result(x, 6, 7);
        Houses.steps(x, Houses.step(1, 2, 3, 1));
    }

    static void promise10ResultLabelsAreLeftToTheLastStep() {
        ContractHouse x = new ContractHouse();
        Houses.table(x, 0, 1);
        Houses.table(x, 0, 1);
        Houses.table(x, 0);
        Houses.operands(x, 0, 1, 2);
        Houses.result(x, 1);
        Houses.steps(x, Houses.step(2, 4, 4, 3), Houses.step(1, 6, 4, 3));
    }

    static void promise10DearestPlan() {
        Houses.steps(Houses.ofDearestPlan(), Houses.step(4, 8, 243, 122),
                Houses.step(16, 32, 243, 87), Houses.step(12, 48, 2187, 127),
                Houses.step(2, 60, 729, 125), Houses.step(1, 62, 243, 93));
    }

    // "of those that one whose part that has the set's lowest operand is the least, as bits"

    static void promise10OfEqualWaysTheLowestOperandAloneIsTheLeastPart() {
        Houses.steps(ofOperands(6), Houses.step(16, 32, 1, 0), Houses.step(8, 48, 1, 0),
                Houses.step(4, 56, 1, 0), Houses.step(2, 60, 1, 0), Houses.step(1, 62, 1, 0));
    }

    static void promise10OfEqualWaysPart3ComesBeforePart5() {
        ContractHouse x = new ContractHouse();
        Houses.table(x, 0, 1);
        Houses.table(x, 0);
        Houses.table(x, 1);
        Houses.operands(x, 0, 1, 2);
        // 0 with 1 first and 0 with 2 first both cost 6, 1 with 2 first costs 8.
        Houses.steps(x, Houses.step(1, 2, 4, 3), Houses.step(3, 4, 2, 2));
    }

    static void promise10OfEqualWaysPart7ComesBeforePart9ThoughThatHasFewerOperands() {
        ContractHouse x = new ContractHouse();
        Houses.table(x, 1);
        Houses.table(x);
        Houses.table(x, 1, 2);
        Houses.operands(x, 0, 1, 1, 2);
        Houses.result(x, 2);
        Houses.steps(x, Houses.step(2, 4, 1, 0), Houses.step(1, 6, 2, 2), Houses.step(7, 8, 4, 6));
    }

    static void promise10OfEqualWaysPart3ComesBeforePart13() {
        ContractHouse x = new ContractHouse();
        Houses.table(x, 3);
        Houses.table(x, 3, 4);
        Houses.table(x);
        Houses.operands(x, 0, 1, 2, 2);
        Houses.result(x, 4);
        Houses.steps(x, Houses.step(1, 2, 4, 24), Houses.step(4, 8, 1, 0),
                Houses.step(3, 12, 2, 16));
    }

    static void promise10OfEqualWaysPart31ComesBeforePart33() {
        ContractHouse x = new ContractHouse();
        Houses.table(x, 4);
        Houses.table(x);
        Houses.table(x, 1, 3, 4);
        Houses.operands(x, 0, 1, 1, 1, 1, 2);
        Houses.result(x, 3);
        Houses.steps(x, Houses.step(8, 16, 1, 0), Houses.step(4, 24, 1, 0),
                Houses.step(2, 28, 1, 0), Houses.step(1, 30, 2, 16), Houses.step(31, 32, 8, 26));
    }

    static void promise10CheaperWayComesBeforeALesserPart() {
        ContractHouse x = new ContractHouse();
        Houses.table(x, 0, 1);
        Houses.table(x, 2);
        Houses.operands(x, 0, 0, 1);
        Houses.steps(x, Houses.step(1, 2, 4, 3), Houses.step(3, 4, 2, 4));
    }

    // "both parts have their plans"

    static void promise10LowestOperandsPartHasItsPlan() {
        ContractHouse x = new ContractHouse();
        Houses.table(x, 0, 3);
        Houses.table(x, 3);
        Houses.table(x);
        Houses.table(x, 0);
        Houses.operands(x, 0, 1, 2, 3, 2);
        // Within operands 0, 1 and 3 both 0 with 1 first and 0 with 3 first cost 6.
        Houses.steps(x, Houses.step(1, 2, 4, 9), Houses.step(3, 8, 2, 1), Houses.step(4, 16, 1, 0),
                Houses.step(11, 20, 1, 0));
    }

    static void promise10OtherPartHasItsPlan() {
        ContractHouse x = new ContractHouse();
        Houses.table(x);
        Houses.table(x, 0, 1);
        Houses.table(x, 0);
        Houses.table(x, 1);
        Houses.operands(x, 0, 1, 2, 3);
        // Within operands 1, 2 and 3 both 1 with 2 first and 1 with 3 first cost 6.
        Houses.steps(x, Houses.step(2, 4, 4, 3), Houses.step(6, 8, 2, 2), Houses.step(1, 14, 1, 0));
    }

    // "Its STEPS are those of the part that has the lowest operand, then those of the other one, then
    // the join."

    static void promise10StepsOfBothPartsThenTheJoin() {
        ContractHouse x = new ContractHouse();
        Houses.table(x, 0, 1, 2);
        Houses.table(x, 3, 4, 5);
        Houses.operands(x, 0, 1, 0, 1, 0, 1);
        Houses.steps(x, Houses.step(4, 16, 8, 7), Houses.step(1, 20, 8, 7),
                Houses.step(8, 32, 8, 56), Houses.step(2, 40, 8, 56), Houses.step(21, 42, 1, 0));
    }

    static void promise10StepsOfTheLowestOperandsPartComeFirstThoughItIsDearer() {
        ContractHouse x = Houses.ofSizes(3, 3, 3);
        Houses.table(x, 0, 1, 2);
        Houses.table(x, 7);
        Houses.operands(x, 0, 0, 1, 1);
        Houses.steps(x, Houses.step(1, 2, 27, 7), Houses.step(4, 8, 2, 128),
                Houses.step(3, 12, 1, 0));
    }

    static void promise10NoPartIsEmptyAndTheTwoShareNoOperand() {
        for (ContractHouse x : new ContractHouse[] {ofOperands(6), Houses.ofDearestPlan()}) {
            for (int k = 0; k < 5; k++) {
                Checks.due("part is empty", x.step(k, 0) == 0 ? 1 : 0, 0);
                Checks.due("other part is empty", x.step(k, 1) == 0 ? 1 : 0, 0);
                Checks.due("shared operands", x.step(k, 0) & x.step(k, 1), 0);
            }
        }
    }

    static void promise10LastStepJoinsAllOperands() {
        for (int operands = 2; operands <= 6; operands++) {
            ContractHouse x = ofOperands(operands);
            int last = operands - 2;
            Checks.due("all operands", x.step(last, 0) | x.step(last, 1), (1 << operands) - 1);
        }
    }

    // "Of step k of it": of the plan of the expression as it is now

    static void promise10StepsFollowAnOperandAfterThem() {
        ContractHouse x = ofOperands(2);
        Houses.steps(x, Houses.step(1, 2, 1, 0));
        x.operand(0);
        Houses.steps(x, Houses.step(2, 4, 1, 0), Houses.step(1, 6, 1, 0));
    }

    static void promise10StepsFollowAResultAfterThem() {
        ContractHouse x = new ContractHouse();
        Houses.table(x, 0, 1);
        Houses.table(x, 2);
        Houses.operands(x, 0, 0, 1);
        Houses.steps(x, Houses.step(1, 2, 4, 3), Houses.step(3, 4, 2, 4));
        Houses.result(x, 0, 1);
        Houses.steps(x, Houses.step(2, 4, 8, 7), Houses.step(1, 6, 4, 3));
    }

    /** Operands without labels: all ways cost the same. */
    private static ContractHouse ofOperands(int operands) {
        ContractHouse x = Houses.ofTables(1);
        Houses.operands(x, new int[operands]);
        return x;
    }

    private static void noStep(ContractHouse x, int k) {
        for (int what = 0; what < 4; what++) {
            int w = what;
            Checks.indexOut("step(" + k + ", " + w + ")", () -> x.step(k, w));
        }
    }
}
