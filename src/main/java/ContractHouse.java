import java.util.Arrays;

/**
 * Sums of products of small tables along labels: the cheapest way to put the tables together, two
 * at a time, the steps of that way, and what comes of it.
 *
 * <p>Sets of labels and sets of operands are bits throughout.
 */
public final class ContractHouse {
    public static final int NONE = -1;

    private static final int LABELS = 8;
    private static final int FIRST_SIZE = 2;
    private static final int LARGEST_SIZE = 3;
    private static final int TABLES = 8;
    private static final int MOST_CELLS = LARGEST_SIZE * LARGEST_SIZE * LARGEST_SIZE;
    private static final int OPERANDS = 6;
    private static final int SETS = 1 << OPERANDS;

    private static final int OUTCOME = TABLES * MOST_CELLS;
    private static final int ONE = OUTCOME + MOST_CELLS;
    private static final int SCRATCH = ONE + 1;

    private final Sizes sizes;
    private final Plan plan;
    private final Row row;

    private int tables;
    private final int[] tableLabels;

    private int operands;
    private final int[] operandTables;
    private final int[] operandLabels;
    private int resultLabels;

    /** Where in the row the cells of a set of operands stand. */
    private final int[] homes;

    // Plan and outcome are made when they are first asked for and kept until something that they
    // hang on changes.
    private boolean planned;
    private boolean summed;

    public ContractHouse() {
        sizes = new Sizes();
        plan = new Plan(sizes);
        row = new Row(sizes);
        tableLabels = new int[TABLES];
        operandTables = new int[OPERANDS];
        operandLabels = new int[OPERANDS];
        homes = new int[SETS];
    }

    public void size(int label, int size) throws IllegalArgumentException, IllegalStateException {
        if (label < 0 || label >= LABELS) {
            throw new IllegalArgumentException("no such label");
        }
        if (size < 1 || size > LARGEST_SIZE) {
            throw new IllegalArgumentException("no such size");
        }
        if (aTableHas(label)) {
            throw new IllegalStateException("a table has the label");
        }
        sizes.change(label, size);
        // A result label that no table has may change its size: then the outcome has other cells.
        summed = false;
    }

    public int table(int a, int b, int c)
            throws IllegalArgumentException, UnsupportedOperationException {
        if (!areLabels(a, b, c)) {
            throw new IllegalArgumentException("labels must rise, with NONE behind the last one");
        }
        if (tables >= TABLES) {
            throw new UnsupportedOperationException("there are eight tables");
        }
        tableLabels[tables] = labelBits(a, b, c);
        tables++;
        return tables - 1;
    }

    public void set(int table, int cell, int v) throws IndexOutOfBoundsException {
        if (!isTable(table)) {
            throw new IndexOutOfBoundsException("no such table");
        }
        if (cell < 0 || cell >= sizes.choices(tableLabels[table])) {
            throw new IndexOutOfBoundsException("no such cell");
        }
        row.write(homeOfTable(table) + cell, v);
        summed = false;
    }

    public int extent(int table) throws IndexOutOfBoundsException {
        if (!isTable(table)) {
            throw new IndexOutOfBoundsException("no such table");
        }
        return sizes.choices(tableLabels[table]);
    }

    public void clear() {
        operands = 0;
        resultLabels = 0;
        forgetPlan();
    }

    public int operand(int table) throws IndexOutOfBoundsException, UnsupportedOperationException {
        if (!isTable(table)) {
            throw new IndexOutOfBoundsException("no such table");
        }
        if (operands >= OPERANDS) {
            throw new UnsupportedOperationException("there are six operands");
        }
        operandTables[operands] = table;
        operandLabels[operands] = tableLabels[table];
        operands++;
        forgetPlan();
        return operands - 1;
    }

    public int result(int a, int b, int c) throws IllegalArgumentException {
        if (!areLabels(a, b, c)) {
            throw new IllegalArgumentException("labels must rise, with NONE behind the last one");
        }
        resultLabels = labelBits(a, b, c);
        forgetPlan();
        return sizes.choices(resultLabels);
    }

    public int cost() {
        if (operands < 2) {
            return 0;
        }
        makePlan();
        return plan.costOf(allOperands());
    }

    public int step(int k, int what) throws IndexOutOfBoundsException, IllegalArgumentException {
        if (k < 0 || k >= countSteps()) {
            throw new IndexOutOfBoundsException("no such step");
        }
        if (what < 0 || what > 3) {
            throw new IllegalArgumentException("what is 0 to 3");
        }
        makePlan();
        int joined = plan.joinedBy(k);
        int part = plan.partOf(joined);
        int other = joined ^ part;
        switch (what) {
            case 0:
                return part;
            case 1:
                return other;
            case 2:
                return plan.joinCost(part, other);
            default:
                return plan.joinLabels(part, other);
        }
    }

    public int value(int i) throws IndexOutOfBoundsException {
        if (i < 0 || i >= sizes.choices(resultLabels)) {
            throw new IndexOutOfBoundsException("no such cell");
        }
        if (!summed) {
            if (operands < 2) {
                sumAlone();
            } else {
                makePlan();
                followPlan();
            }
            summed = true;
        }
        return row.read(OUTCOME + i);
    }

    public int about(int what) throws IllegalArgumentException {
        switch (what) {
            case 0:
                return tables;
            case 1:
                return operands;
            case 2:
                return resultLabels;
            case 3:
                return countSteps();
            default:
                throw new IllegalArgumentException("what is 0 to 3");
        }
    }

    private static boolean areLabels(int a, int b, int c) {
        return a >= NONE && a < LABELS && mayFollow(a, b) && mayFollow(b, c);
    }

    private static boolean mayFollow(int before, int label) {
        return label == NONE || (before != NONE && label > before && label < LABELS);
    }

    private static int labelBits(int a, int b, int c) {
        return labelBit(a) | labelBit(b) | labelBit(c);
    }

    private static int labelBit(int label) {
        return label == NONE ? 0 : 1 << label;
    }

    private static int homeOfTable(int table) {
        return table * MOST_CELLS;
    }

    private boolean isTable(int table) {
        return table >= 0 && table < tables;
    }

    private boolean aTableHas(int label) {
        for (int t = 0; t < tables; t++) {
            if ((tableLabels[t] & labelBit(label)) != 0) {
                return true;
            }
        }
        return false;
    }

    private int allOperands() {
        return (1 << operands) - 1;
    }

    private int countSteps() {
        return operands < 2 ? 0 : operands - 1;
    }

    private void forgetPlan() {
        planned = false;
        summed = false;
    }

    private void makePlan() {
        if (!planned) {
            plan.make(operandLabels, operands, resultLabels);
            planned = true;
        }
    }

    /** Without a second operand a 1 stands for it, and without any for both. */
    private void sumAlone() {
        int home = operands == 0 ? ONE : homeOfTable(operandTables[0]);
        int labels = operands == 0 ? 0 : operandLabels[0];
        row.join(home, labels, ONE, 0, OUTCOME, resultLabels);
    }

    /**
     * Products may be summed step by step because int arithmetic that wraps still distributes. The
     * last join goes by the result labels, not by what all operands leave: so a result label that
     * no operand has gets its cells, too.
     */
    private void followPlan() {
        for (int o = 0; o < operands; o++) {
            homes[1 << o] = homeOfTable(operandTables[o]);
        }
        int last = countSteps() - 1;
        int free = SCRATCH;
        for (int k = 0; k < last; k++) {
            int joined = plan.joinedBy(k);
            int end = free + sizes.choices(plan.leavesOf(joined));
            row.reserve(end);
            joinParts(joined, free, plan.leavesOf(joined));
            free = end;
        }
        joinParts(plan.joinedBy(last), OUTCOME, resultLabels);
    }

    private void joinParts(int joined, int to, int toLabels) {
        int part = plan.partOf(joined);
        int other = joined ^ part;
        row.join(homes[part], plan.leavesOf(part), homes[other], plan.leavesOf(other), to, toLabels);
        homes[joined] = to;
    }

    private static final class Sizes {
        private final int[] sizes;

        Sizes() {
            sizes = new int[LABELS];
            for (int label = 0; label < LABELS; label++) {
                sizes[label] = FIRST_SIZE;
            }
        }

        void change(int label, int size) {
            sizes[label] = size;
        }

        int sizeOf(int label) {
            return sizes[label];
        }

        /** How many choices of indexes the labels have together. */
        int choices(int labels) {
            int product = 1;
            for (int label = 0; label < LABELS; label++) {
                if ((labels >> label & 1) != 0) {
                    product *= sizes[label];
                }
            }
            return product;
        }

        /** How many cells further the label's next index is; 0 if it is not among the labels. */
        int stride(int labels, int label) {
            if ((labels >> label & 1) == 0) {
                return 0;
            }
            int behind = labels & -(2 << label);
            return choices(behind);
        }
    }

    private static final class Plan {
        private final Sizes sizes;
        private final int[] has;
        private final int[] leaves;
        private final int[] costs;
        private final int[] parts;
        private final int[] joinedSets;

        Plan(Sizes sizes) {
            this.sizes = sizes;
            has = new int[SETS];
            leaves = new int[SETS];
            costs = new int[SETS];
            parts = new int[SETS];
            joinedSets = new int[OPERANDS - 1];
        }

        int costOf(int set) {
            return costs[set];
        }

        int leavesOf(int set) {
            return leaves[set];
        }

        /** The part of the set that has its lowest operand. */
        int partOf(int set) {
            return parts[set];
        }

        /** The set that comes of step k. */
        int joinedBy(int k) {
            return joinedSets[k];
        }

        int joinLabels(int part, int other) {
            return leaves[part] | leaves[other];
        }

        int joinCost(int part, int other) {
            return sizes.choices(joinLabels(part, other));
        }

        /** For two operands at least. */
        void make(int[] operandLabels, int operands, int resultLabels) {
            int all = (1 << operands) - 1;
            noteLabels(operandLabels, operands);
            for (int set = 1; set <= all; set++) {
                noteLeaves(set, all, resultLabels);
            }
            // A part is less than its set, as bits: so it has its plan before the set needs it.
            for (int set = 1; set <= all; set++) {
                if (isSeveral(set)) {
                    choosePart(set);
                }
            }
            listSteps(all, operands - 1);
        }

        private static boolean isSeveral(int set) {
            return (set & (set - 1)) != 0;
        }

        private void noteLabels(int[] operandLabels, int operands) {
            for (int o = 0; o < operands; o++) {
                int bit = 1 << o;
                for (int below = 0; below < bit; below++) {
                    has[bit | below] = operandLabels[o] | has[below];
                }
            }
        }

        private void noteLeaves(int set, int all, int resultLabels) {
            leaves[set] = isSeveral(set) ? has[set] & (resultLabels | has[all ^ set]) : has[set];
        }

        private void choosePart(int set) {
            int lowest = set & -set;
            int best = 0;
            int least = 0;
            for (int part = lowest; part < set; part++) {
                if ((part & lowest) != 0 && (part | set) == set) {
                    int other = set ^ part;
                    int cost = costs[part] + costs[other] + joinCost(part, other);
                    if (best == 0 || cost < least) {
                        best = part;
                        least = cost;
                    }
                }
            }
            parts[set] = best;
            costs[set] = least;
        }

        /**
         * From the last step down: right before a set's join stand the steps of its other part, one
         * fewer than that has operands, and before these the steps of its lowest operand's part.
         */
        private void listSteps(int all, int steps) {
            joinedSets[steps - 1] = all;
            for (int k = steps - 1; k >= 0; k--) {
                int part = parts[joinedSets[k]];
                int other = joinedSets[k] ^ part;
                if (isSeveral(other)) {
                    joinedSets[k - 1] = other;
                }
                if (isSeveral(part)) {
                    joinedSets[k - Integer.bitCount(other)] = part;
                }
            }
        }
    }

    /**
     * All cells in one row: the tables', the outcome's, a 1, and from SCRATCH on those that the
     * steps make. So a join is told by places alone, and no call makes arrays of its own.
     */
    private static final class Row {
        private final Sizes sizes;
        private int[] cells;

        // Of the labels that a join goes through, in rising order.
        private final int[] ends;
        private final int[] indexes;
        private final int[] leftStrides;
        private final int[] rightStrides;
        private final int[] toStrides;

        Row(Sizes sizes) {
            this.sizes = sizes;
            cells = new int[SCRATCH];
            cells[ONE] = 1;
            ends = new int[LABELS];
            indexes = new int[LABELS];
            leftStrides = new int[LABELS];
            rightStrides = new int[LABELS];
            toStrides = new int[LABELS];
        }

        int read(int place) {
            return cells[place];
        }

        void write(int place, int v) {
            cells[place] = v;
        }

        void reserve(int length) {
            if (cells.length < length) {
                // Doubling keeps all rows that an object ever makes small together.
                cells = Arrays.copyOf(cells, Math.max(length, 2 * cells.length));
            }
        }

        /** Sums the products of two tables' cells into those of a third one, which may be dirty. */
        void join(int left, int leftLabels, int right, int rightLabels, int to, int toLabels) {
            int cleanEnd = to + sizes.choices(toLabels);
            for (int place = to; place < cleanEnd; place++) {
                cells[place] = 0;
            }
            int count = layOut(leftLabels, rightLabels, toLabels);
            int choices = sizes.choices(leftLabels | rightLabels | toLabels);
            int atLeft = left;
            int atRight = right;
            int atTo = to;
            for (int n = 0; n < choices; n++) {
                cells[atTo] += cells[atLeft] * cells[atRight];
                for (int d = count - 1; d >= 0; d--) {
                    indexes[d]++;
                    int by = 1;
                    if (indexes[d] == ends[d]) {
                        indexes[d] = 0;
                        by = 1 - ends[d];
                    }
                    atLeft += by * leftStrides[d];
                    atRight += by * rightStrides[d];
                    atTo += by * toStrides[d];
                    if (by == 1) {
                        break;
                    }
                }
            }
        }

        private int layOut(int leftLabels, int rightLabels, int toLabels) {
            int labels = leftLabels | rightLabels | toLabels;
            int count = 0;
            for (int label = 0; label < LABELS; label++) {
                // With one index alone there is nowhere to go.
                if ((labels >> label & 1) != 0 && sizes.sizeOf(label) > 1) {
                    ends[count] = sizes.sizeOf(label);
                    indexes[count] = 0;
                    leftStrides[count] = sizes.stride(leftLabels, label);
                    rightStrides[count] = sizes.stride(rightLabels, label);
                    toStrides[count] = sizes.stride(toLabels, label);
                    count++;
                }
            }
            return count;
        }
    }
}
