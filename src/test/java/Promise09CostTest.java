/** Promise 9, cost, and what Terms 2 says of sets, joins and ways. */
public final class Promise09CostTest {
    public static void main(String[] args) {
        Checks.runAll(Promise09CostTest.class);
    }

    // "0 for less than two."

    static void promise9NoOperandsCostNothing() {
        ContractHouse x = Houses.ofSize(3);
        Houses.table(x, 0, 1, 2);
        Houses.result(x, 0, 1, 2);
        Checks.due("cost", x.cost(), 0);
    }

    static void promise9OneOperandCostsNothing() {
        ContractHouse x = Houses.ofSize(3);
        Houses.table(x, 0, 1, 2);
        x.operand(0);
        Checks.due("cost", x.cost(), 0);
        Houses.result(x, 0, 1, 2);
        Checks.due("cost with result labels", x.cost(), 0);
    }

    static void promise9OneOperandOfAClearedExpressionCostsNothing() {
        ContractHouse x = Houses.of2x3();
        Houses.operands(x, 0, 0);
        Checks.due("cost of two", x.cost(), 6);
        x.clear();
        Checks.due("cost of none", x.cost(), 0);
        x.operand(0);
        Checks.due("cost of one", x.cost(), 0);
    }

    static void promise9TwoOperandsCostTheirJoin() {
        ContractHouse x = Houses.of2x3();
        Houses.operands(x, 0, 0);
        Checks.due("cost", x.cost(), 6);
    }

    // "To JOIN two sets .. COSTS as much as the product of the sizes of all labels that either one
    // leaves."

    static void promise9JoinWithoutLabelsCostsOne() {
        Checks.due("cost", costOf(Houses.ofTables(1), 0, 0), 1);
    }

    static void promise9JoinAlongLabelsOfSizeOneCostsOne() {
        ContractHouse x = Houses.ofSize(1);
        Houses.table(x, 0, 1, 2);
        Houses.table(x, 5, 6, 7);
        Checks.due("cost", costOf(x, 0, 1), 1);
    }

    static void promise9LabelThatBothLeaveCountsOnce() {
        ContractHouse x = Houses.ofSizes(2, 3, 2);
        Houses.table(x, 0, 1);
        Houses.table(x, 1, 2);
        Checks.due("cost", costOf(x, 0, 1), 12);
    }

    static void promise9LabelThatOnlyTheSecondLeavesCounts() {
        ContractHouse x = Houses.ofSizes(2, 3);
        Houses.table(x);
        Houses.table(x, 1);
        Checks.due("cost", costOf(x, 0, 1), 3);
    }

    static void promise9DearestJoinOfTwoOperands() {
        ContractHouse x = Houses.ofSize(3);
        Houses.table(x, 0, 1, 2);
        Houses.table(x, 5, 6, 7);
        Checks.due("cost", costOf(x, 0, 1), 729);
    }

    // "A SET of operands .. LEAVES labels: of one operand all of its own"

    static void promise9OneOperandLeavesLabelsThatNothingElseHas() {
        ContractHouse x = Houses.ofSizes(2, 3);
        Houses.table(x, 0, 1);
        Houses.table(x, 0);
        Checks.due("cost", costOf(x, 0, 1), 6);
    }

    // "of several all that one of them has and that the result or an operand that is not among them
    // has, too"

    static void promise9SeveralLeaveNoLabelThatOnlyTheyHave() {
        ContractHouse x = new ContractHouse();
        Houses.table(x, 0, 1);
        Houses.table(x, 0, 1);
        Houses.table(x, 2);
        // 0 with 1 costs 4 and leaves nothing: then 2.
        Checks.due("cost", costOf(x, 0, 1, 2), 6);
    }

    static void promise9SeveralLeaveNoLabelThatOnlyOneOfThemHas() {
        ContractHouse x = Houses.ofSizes(3, 3, 3);
        Houses.table(x, 0, 1);
        Houses.table(x, 0, 2);
        Houses.table(x, 0);
        // 1 with 2 costs 9 and leaves 0 alone: then 9.
        Checks.due("cost", costOf(x, 0, 1, 2), 18);
    }

    static void promise9SeveralLeaveWhatTheResultHas() {
        ContractHouse x = new ContractHouse();
        Houses.table(x, 0, 1);
        Houses.table(x, 0, 1);
        Houses.table(x, 2);
        Houses.operands(x, 0, 1, 2);
        Houses.result(x, 0, 1);
        // 0 with 1 costs 4 and leaves both labels: then 8.
        Checks.due("cost", x.cost(), 12);
    }

    static void promise9SeveralLeaveWhatAnOperandThatIsNotAmongThemHas() {
        ContractHouse x = Houses.ofSize(3);
        for (int t = 0; t < 4; t++) {
            Houses.table(x, 7);
        }
        // Two pairs both leave label 7, so no way is cheaper than 3 and 3 and 3.
        Checks.due("cost", costOf(x, 0, 1, 2, 3), 9);
    }

    static void promise9SameTableThatComesAgainIsAnotherOperand() {
        ContractHouse x = Houses.ofSize(3);
        Houses.table(x, 7);
        Checks.due("cost", costOf(x, 0, 0, 0, 0), 9);
    }

    static void promise9ResultLabelThatNoneOfThemHasIsNotLeft() {
        ContractHouse x = Houses.ofSize(3);
        Houses.table(x, 0);
        Houses.table(x, 1);
        Houses.operands(x, 0, 0, 0, 0);
        Houses.result(x, 1, 6, 7);
        Checks.due("cost", x.cost(), 9);
        x.size(7, 1);
        Checks.due("cost after a size", x.cost(), 9);
    }

    // "A WAY .. parts it into two, none of them empty .. its cost is that of all its joins together."
    // "The PLAN for a set is a way with the least cost"

    static void promise9SixOperandsTakeFiveJoins() {
        Checks.due("cost", costOf(Houses.ofTables(1), 0, 0, 0, 0, 0, 0), 5);
    }

    static void promise9CheapestWayMayJoinAnyTwoOfThreeFirst() {
        // Tables 0 and 1 cost 8 and leave nothing: then 2.
        int[][] orders = {{0, 1, 2}, {0, 2, 1}, {1, 0, 2}, {1, 2, 0}, {2, 0, 1}, {2, 1, 0}};
        for (int[] order : orders) {
            ContractHouse x = new ContractHouse();
            Houses.table(x, 0, 1, 2);
            Houses.table(x, 0, 1, 2);
            Houses.table(x, 5);
            Checks.due("cost", costOf(x, order), 10);
        }
    }

    static void promise9CheapestWayOfFourMayJoinTwoPairs() {
        ContractHouse x = new ContractHouse();
        Houses.table(x, 0, 1, 2);
        Houses.table(x, 3, 4, 5);
        // One after the other would cost 8 and 8 and 8, a pair with a pair costs 1.
        Checks.due("cost", costOf(x, 0, 0, 1, 1), 17);
        Checks.due("cost", costOf(x, 0, 1, 0, 1), 17);
        Checks.due("cost", costOf(x, 0, 1, 1, 0), 17);
    }

    static void promise9CheapestWayMayJoinTheLastTwoFirst() {
        ContractHouse x = Houses.ofSizes(3, 1, 3, 3);
        Houses.table(x, 0, 1);
        Houses.table(x, 1, 2);
        Houses.table(x, 2, 3);
        Houses.operands(x, 0, 1, 2);
        Houses.result(x, 0, 3);
        // First 1 with 2: 9, then 0: 9. The other way round: 9, then 27.
        Checks.due("cost", x.cost(), 18);
    }

    static void promise9CheapFirstJoinMayNotBePartOfTheCheapestWay() {
        ContractHouse x = Houses.ofSizes(3, 3, 3, 2);
        Houses.table(x, 0, 1);
        Houses.table(x, 2);
        Houses.table(x, 3);
        Houses.table(x, 0, 1, 2);
        // No join is cheaper than 1 with 2, which costs 6; but after it 27 and 3 are still to come.
        // 0 with 3 costs 27, then come 3 and 2.
        Checks.due("cost", costOf(x, 0, 1, 2, 3), 32);
    }

    static void promise9DearestPlan() {
        ContractHouse x = Houses.ofDearestPlan();
        Checks.due("cost", x.cost(), 3645);
    }

    // "What the plan for all operands costs": of the expression as it is now

    static void promise9CostFollowsAnOperandAfterIt() {
        ContractHouse x = new ContractHouse();
        Houses.table(x, 0, 1, 2);
        Houses.table(x, 2, 3);
        Checks.due("cost of two", costOf(x, 0, 1), 16);
        x.operand(1);
        Checks.due("cost of three", x.cost(), 12);
    }

    static void promise9CostFollowsAResultAfterIt() {
        ContractHouse x = new ContractHouse();
        Houses.table(x, 0, 1, 2);
        Houses.table(x, 2, 3);
        Checks.due("cost without result labels", costOf(x, 0, 1, 1), 12);
        Houses.result(x, 3);
        Checks.due("cost with one", x.cost(), 20);
        Houses.result(x);
        Checks.due("cost without them again", x.cost(), 12);
    }

    static void promise9CostDoesNotHangOnCells() {
        ContractHouse x = Houses.of2x3();
        Checks.due("cost", costOf(x, 0, 0, 0), 12);
        Houses.fill(x, 0, 0, 0, 0, 0, 0, 0);
        Checks.due("cost of zeros", x.cost(), 12);
    }

    private static int costOf(ContractHouse x, int... tables) {
        x.clear();
        Houses.operands(x, tables);
        return x.cost();
    }
}
