/** Promises 9 and 10: what the plan costs, and its steps, worked out by hand. */
public final class PlanTest {
    private static final int N = ContractHouse.NONE;

    public static void main(String[] args) {
        lessThanTwoCostNothing();
        chainGoesTheCheapWay();
        equalCostsTakeTheLeastPart();
        stepsOfTheLowestPartComeFirst();
        oneOperandLeavesAllOfItsLabels();
        resultKeepsLabels();
        labelThatNoOperandHasCostsNothing();
        planFollowsWhatChanges();
        stepRefusesWrongOnes();
        Checks.end();
    }

    private static void lessThanTwoCostNothing() {
        ContractHouse x = new ContractHouse();
        x.table(0, 1, 2);
        Checks.due("cost of none", x.cost(), 0);
        x.operand(0);
        Checks.due("cost of one", x.cost(), 0);
        Checks.indexOut("step of one", () -> x.step(0, 0));
        x.operand(0);
        Checks.due("cost of two", x.cost(), 8);
        steps(x, new int[][] {{1, 2, 8, 7}});
    }

    /** Sizes 3, 1, 3, 3 in a chain: the middle label of size 1 is kept to the end. */
    private static void chainGoesTheCheapWay() {
        ContractHouse x = new ContractHouse();
        x.size(0, 3);
        x.size(1, 1);
        x.size(2, 3);
        x.size(3, 3);
        x.table(0, 1, N);
        x.table(1, 2, N);
        x.table(2, 3, N);
        x.operand(0);
        x.operand(1);
        x.operand(2);
        x.result(0, 3, N);
        // First 1 with 2: 1*3*3, then 0: 3*1*3. The other way round: 3*1*3, then 3*3*3.
        Checks.due("cost", x.cost(), 18);
        steps(x, new int[][] {{2, 4, 9, 2 + 4 + 8}, {1, 6, 9, 1 + 2 + 8}});
    }

    private static void equalCostsTakeTheLeastPart() {
        ContractHouse x = new ContractHouse();
        x.table(N, N, N);
        for (int o = 0; o < 6; o++) {
            x.operand(0);
        }
        // All joins cost 1: the least part is the lowest operand alone, again and again.
        Checks.due("cost", x.cost(), 5);
        steps(x, new int[][] {
            {16, 32, 1, 0}, {8, 48, 1, 0}, {4, 56, 1, 0}, {2, 60, 1, 0}, {1, 62, 1, 0},
        });
    }

    /** Two pairs, each cheap within: both parts have steps. */
    private static void stepsOfTheLowestPartComeFirst() {
        ContractHouse x = new ContractHouse();
        x.table(0, 1, 2);
        x.table(3, 4, 5);
        x.operand(0);
        x.operand(1);
        x.operand(0);
        x.operand(1);
        Checks.due("cost", x.cost(), 17);
        steps(x, new int[][] {{1, 4, 8, 7}, {2, 8, 8, 56}, {5, 10, 1, 0}});
    }

    private static void oneOperandLeavesAllOfItsLabels() {
        ContractHouse x = new ContractHouse();
        x.size(5, 3);
        x.table(0, 5, N);
        x.table(0, N, N);
        x.operand(0);
        x.operand(1);
        // Label 5 is in neither the result nor the other one; operand 0 alone leaves it all the same.
        Checks.due("cost", x.cost(), 6);
        steps(x, new int[][] {{1, 2, 6, 1 + 32}});
        x.operand(1);
        // Joined with 1 it is gone, so that comes first only if it is cheaper at the end.
        Checks.due("cost of three", x.cost(), 8);
        steps(x, new int[][] {{2, 4, 2, 1}, {1, 6, 6, 1 + 32}});
    }

    private static void resultKeepsLabels() {
        ContractHouse x = new ContractHouse();
        x.table(0, 1, N);
        x.table(0, 1, N);
        x.table(2, N, N);
        x.operand(0);
        x.operand(1);
        x.operand(2);
        Checks.due("cost without result", x.cost(), 6);
        steps(x, new int[][] {{1, 2, 4, 3}, {3, 4, 2, 4}});
        x.result(0, 1, N);
        // 0 with 1 first costs 4 and 8, 1 with 2 first 8 and 4: as much, so the lesser part counts.
        Checks.due("cost with result", x.cost(), 12);
        steps(x, new int[][] {{2, 4, 8, 7}, {1, 6, 4, 3}});
    }

    private static void labelThatNoOperandHasCostsNothing() {
        ContractHouse x = new ContractHouse();
        x.size(7, 3);
        x.table(0, N, N);
        x.operand(0);
        x.operand(0);
        x.result(6, 7, N);
        Checks.due("cost", x.cost(), 2);
        steps(x, new int[][] {{1, 2, 2, 1}});
        x.size(7, 1);
        Checks.due("cost after size", x.cost(), 2);
    }

    private static void planFollowsWhatChanges() {
        ContractHouse x = new ContractHouse();
        x.table(0, 1, 2);
        x.table(2, 3, N);
        x.operand(0);
        x.operand(1);
        Checks.due("cost", x.cost(), 16);
        x.operand(1);
        Checks.due("cost after operand", x.cost(), 4 + 8);
        x.result(3, N, N);
        Checks.due("cost after result", x.cost(), 4 + 16);
        x.clear();
        x.operand(1);
        x.operand(1);
        Checks.due("cost after clear", x.cost(), 4);
        steps(x, new int[][] {{1, 2, 4, 12}});
    }

    private static void stepRefusesWrongOnes() {
        ContractHouse x = new ContractHouse();
        x.table(0, N, N);
        Checks.indexOut("step(0, 0) without operands", () -> x.step(0, 0));
        Checks.indexOut("step(0, 9) without operands", () -> x.step(0, 9));
        x.operand(0);
        x.operand(0);
        x.operand(0);
        for (int k : new int[] {-1, 2, 5, Integer.MIN_VALUE, Integer.MAX_VALUE}) {
            Checks.indexOut("step(" + k + ", 0)", () -> x.step(k, 0));
            Checks.indexOut("step(" + k + ", 4)", () -> x.step(k, 4));
        }
        for (int what : new int[] {-1, 4, Integer.MIN_VALUE, Integer.MAX_VALUE}) {
            Checks.illegalArgument("step(0, " + what + ")", () -> x.step(0, what));
            Checks.illegalArgument("step(1, " + what + ")", () -> x.step(1, what));
        }
    }

    private static void steps(ContractHouse x, int[][] want) {
        Checks.due("steps", x.about(3), want.length);
        int total = 0;
        for (int k = 0; k < want.length; k++) {
            for (int what = 0; what < 4; what++) {
                Checks.due("step(" + k + ", " + what + ")", x.step(k, what), want[k][what]);
            }
            total += want[k][2];
        }
        Checks.due("cost, as the steps' sum", x.cost(), total);
        int end = want.length;
        Checks.indexOut("step(" + end + ", 0)", () -> x.step(end, 0));
    }
}
