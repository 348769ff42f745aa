/**
 * "An object is used for at most 512 calls after it has been made": the 512th is answered like any
 * other. Each test counts its calls and ends at the 512th.
 */
public final class CallsUpTo512Test {
    private static final int N = Houses.N;
    private static final int MOST = 512;

    public static void main(String[] args) {
        Checks.runAll(CallsUpTo512Test.class);
    }

    static void promise2SizeHoldsAtThe512thCall() {
        ContractHouse x = new ContractHouse();
        for (int call = 1; call < MOST; call++) {
            x.size(7, 1 + call % 3);
        }
        Checks.due("result(7)", Houses.result(x, 7), 1 + (MOST - 1) % 3);
    }

    static void promise2RefusalHoldsAtThe512thCall() {
        ContractHouse x = new ContractHouse();
        x.table(3, N, N);
        for (int call = 2; call <= MOST; call++) {
            Checks.illegalState("size(3, 2), call " + call, () -> x.size(3, 2));
        }
    }

    static void promise3EighthTableMayComeAtThe512thCall() {
        ContractHouse x = new ContractHouse();
        for (int call = 1; call <= MOST - 8; call++) {
            Checks.illegalArgument("table(8), call " + call, () -> x.table(8, N, N));
        }
        for (int t = 0; t < 8; t++) {
            Checks.due("number", x.table(0, 1, 2), t);
        }
    }

    static void promise3NinthTableIsRefusedAtThe512thCall() {
        ContractHouse x = Houses.ofTables(8);
        for (int call = 9; call <= MOST; call++) {
            Checks.unsupported("table(0), call " + call, () -> x.table(0, N, N));
        }
    }

    static void promise4SetHoldsAtThe512thCall() {
        ContractHouse x = Houses.ofTables(1);
        x.operand(0);
        for (int call = 3; call < MOST; call++) {
            x.set(0, 0, call);
        }
        Checks.due("value(0)", x.value(0), MOST - 1);
    }

    static void promise5ExtentHoldsAtThe512thCall() {
        ContractHouse x = Houses.ofSizes(3, 3, 3);
        x.table(0, 1, 2);
        for (int call = 5; call <= MOST; call++) {
            Checks.due("extent(0), call " + call, x.extent(0), 27);
        }
    }

    static void promise6ClearHoldsUpToThe512thCall() {
        ContractHouse x = Houses.ofTables(2);
        for (int call = 3; call <= MOST; call += 2) {
            Checks.due("operand(1), call " + call, x.operand(1), 0);
            Checks.done("clear(), call " + (call + 1), x::clear);
        }
    }

    static void promise7OperandHoldsUpToThe512thCall() {
        ContractHouse x = Houses.ofTables(1);
        x.operand(0);
        for (int call = 3; call <= MOST; call += 6) {
            x.clear();
            for (int o = 0; o < 5; o++) {
                Checks.due("operand(0), call " + (call + 1 + o), x.operand(0), o);
            }
        }
    }

    static void promise7SeventhOperandIsRefusedAtThe512thCall() {
        ContractHouse x = Houses.ofTables(1);
        Houses.operands(x, 0, 0, 0, 0, 0, 0);
        for (int call = 8; call <= MOST; call++) {
            Checks.unsupported("operand(0), call " + call, () -> x.operand(0));
        }
    }

    static void promise8ResultHoldsAtThe512thCall() {
        ContractHouse x = new ContractHouse();
        x.size(7, 3);
        for (int call = 2; call <= MOST; call++) {
            int got = call % 2 == 0 ? Houses.result(x, 6, 7) : Houses.result(x, 5);
            Checks.due("result, call " + call, got, call % 2 == 0 ? 6 : 2);
        }
    }

    static void promise9CostHoldsAtThe512thCall() {
        ContractHouse x = Houses.ofDearestPlan();
        Checks.due("cost, call 22", x.cost(), 3645);
        for (int call = 23; call <= MOST; call += 2) {
            int cells = call % 4 == 3 ? Houses.result(x) : Houses.result(x, 0, 3, 6);
            Checks.due("cost, call " + (call + 1), x.cost(), cells == 1 ? 837 : 3645);
        }
    }

    static void promise10StepHoldsAtThe512thCall() {
        ContractHouse x = Houses.ofDearestPlan();
        int[] parts = {4, 16, 12, 2, 1};
        for (int call = 22; call <= MOST; call++) {
            Checks.due("step, call " + call, x.step(call % 5, 0), parts[call % 5]);
        }
    }

    /** The dearest calls that there are: all sums are due anew after each set. */
    static void promise11ValueHoldsAtThe512thCall() {
        ContractHouse x = Houses.ofSize(3);
        Model model = new Model();
        for (int label = 0; label < 8; label++) {
            model.size(label, 3);
        }
        for (int[] l : Houses.DEAREST) {
            model.operand(model.table(l[0], l[1], l[2]));
            x.operand(Houses.table(x, l));
        }
        int calls = 8 + 6 + 6;
        for (int cell = 0; cell < 27; cell++) {
            for (int t = 0; t < 6; t++) {
                model.set(t, cell, cell - 10 * t);
                x.set(t, cell, cell - 10 * t);
                calls++;
            }
        }
        model.result(0, 3, 6);
        Houses.result(x, 0, 3, 6);
        calls++;
        while (calls < MOST - 1) {
            int t = calls % 6;
            int cell = calls % 27;
            model.set(t, cell, calls * 7919);
            x.set(t, cell, calls * 7919);
            int i = (calls + 13) % 27;
            Checks.due("value(" + i + "), call " + (calls + 2), x.value(i), model.value(i));
            calls += 2;
        }
        Checks.due("value(0), call " + (calls + 1), x.value(0), model.value(0));
    }

    static void promise12AboutHoldsAtThe512thCall() {
        ContractHouse x = Houses.ofTables(3);
        Houses.operands(x, 0, 1);
        for (int call = 6; call <= MOST; call++) {
            Checks.due("about, call " + call, x.about(call % 4), new int[] {3, 2, 0, 1}[call % 4]);
        }
    }
}
