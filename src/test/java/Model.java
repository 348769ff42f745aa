import java.util.ArrayList;
import java.util.List;
import java.util.TreeSet;

/**
 * The document in its plainest words, without bits, plans kept or steps taken: what the class is
 * held against. Every answer is worked out anew by going through all choices or all ways.
 */
final class Model {
    private static final class Table {
        final List<Integer> labels;
        final int[] cells;

        Table(List<Integer> labels, int cells) {
            this.labels = labels;
            this.cells = new int[cells];
        }
    }

    private static final class Step {
        final TreeSet<Integer> part;
        final TreeSet<Integer> other;

        Step(TreeSet<Integer> part, TreeSet<Integer> other) {
            this.part = part;
            this.other = other;
        }
    }

    private static final class Way {
        int cost = 0;
        final List<Step> steps = new ArrayList<>();
    }

    private final int[] sizes = {2, 2, 2, 2, 2, 2, 2, 2};
    private final List<Table> tables = new ArrayList<>();
    private final List<Table> operands = new ArrayList<>();
    private List<Integer> results = new ArrayList<>();

    void size(int label, int size) {
        if (label < 0 || label > 7 || size < 1 || size > 3) {
            throw new IllegalArgumentException();
        }
        for (Table t : tables) {
            if (t.labels.contains(label)) {
                throw new IllegalStateException();
            }
        }
        sizes[label] = size;
    }

    int table(int a, int b, int c) {
        List<Integer> labels = labels(a, b, c);
        if (tables.size() == 8) {
            throw new UnsupportedOperationException();
        }
        tables.add(new Table(labels, product(labels)));
        return tables.size() - 1;
    }

    void set(int table, int cell, int v) {
        Table t = tableAt(table);
        if (cell < 0 || cell >= t.cells.length) {
            throw new IndexOutOfBoundsException();
        }
        t.cells[cell] = v;
    }

    int extent(int table) {
        return tableAt(table).cells.length;
    }

    void clear() {
        operands.clear();
        results = new ArrayList<>();
    }

    int operand(int table) {
        Table t = tableAt(table);
        if (operands.size() == 6) {
            throw new UnsupportedOperationException();
        }
        operands.add(t);
        return operands.size() - 1;
    }

    int result(int a, int b, int c) {
        results = labels(a, b, c);
        return product(results);
    }

    int cost() {
        return operands.size() < 2 ? 0 : planFor(everyOperand()).cost;
    }

    int step(int k, int what) {
        if (k < 0 || k >= about(3)) {
            throw new IndexOutOfBoundsException();
        }
        if (what < 0 || what > 3) {
            throw new IllegalArgumentException();
        }
        Step s = planFor(everyOperand()).steps.get(k);
        if (what == 0) {
            return bits(s.part);
        }
        if (what == 1) {
            return bits(s.other);
        }
        TreeSet<Integer> labels = leftByEither(s.part, s.other);
        return what == 2 ? product(new ArrayList<>(labels)) : bits(labels);
    }

    int value(int i) {
        if (i < 0 || i >= product(results)) {
            throw new IndexOutOfBoundsException();
        }
        int[] index = new int[8];
        int rest = i;
        for (int r = results.size() - 1; r >= 0; r--) {
            int label = results.get(r);
            index[label] = rest % sizes[label];
            rest /= sizes[label];
        }
        TreeSet<Integer> summed = new TreeSet<>();
        for (Table t : operands) {
            summed.addAll(t.labels);
        }
        summed.removeAll(results);
        return sum(new ArrayList<>(summed), 0, index);
    }

    int about(int what) {
        switch (what) {
            case 0: return tables.size();
            case 1: return operands.size();
            case 2: return bits(new TreeSet<>(results));
            case 3: return Math.max(0, operands.size() - 1);
            default: throw new IllegalArgumentException();
        }
    }

    private int sum(List<Integer> summed, int from, int[] index) {
        if (from == summed.size()) {
            int product = 1;
            for (Table t : operands) {
                int cell = 0;
                for (int label : t.labels) {
                    cell = cell * sizes[label] + index[label];
                }
                product *= t.cells[cell];
            }
            return product;
        }
        int total = 0;
        int label = summed.get(from);
        for (int n = 0; n < sizes[label]; n++) {
            index[label] = n;
            total += sum(summed, from + 1, index);
        }
        return total;
    }

    private TreeSet<Integer> everyOperand() {
        TreeSet<Integer> all = new TreeSet<>();
        for (int o = 0; o < operands.size(); o++) {
            all.add(o);
        }
        return all;
    }

    private Way planFor(TreeSet<Integer> set) {
        if (set.size() < 2) {
            return new Way();
        }
        Way best = null;
        // The others of the set, in or out, counted so that the parts rise as bits.
        List<Integer> members = new ArrayList<>(set);
        int others = members.size() - 1;
        for (int choice = 0; choice < (1 << others) - 1; choice++) {
            TreeSet<Integer> part = new TreeSet<>();
            TreeSet<Integer> other = new TreeSet<>();
            part.add(members.get(0));
            for (int m = 0; m < others; m++) {
                ((choice >> m) % 2 == 1 ? part : other).add(members.get(m + 1));
            }
            Way a = planFor(part);
            Way b = planFor(other);
            Way way = new Way();
            way.cost = a.cost + b.cost + product(new ArrayList<>(leftByEither(part, other)));
            way.steps.addAll(a.steps);
            way.steps.addAll(b.steps);
            way.steps.add(new Step(part, other));
            if (best == null || way.cost < best.cost) {
                best = way;
            }
        }
        return best;
    }

    private TreeSet<Integer> leftByEither(TreeSet<Integer> part, TreeSet<Integer> other) {
        TreeSet<Integer> labels = left(part);
        labels.addAll(left(other));
        return labels;
    }

    private TreeSet<Integer> left(TreeSet<Integer> set) {
        TreeSet<Integer> within = new TreeSet<>();
        TreeSet<Integer> without = new TreeSet<>(results);
        for (int o = 0; o < operands.size(); o++) {
            (set.contains(o) ? within : without).addAll(operands.get(o).labels);
        }
        if (set.size() > 1) {
            within.retainAll(without);
        }
        return within;
    }

    private Table tableAt(int table) {
        if (table < 0 || table >= tables.size()) {
            throw new IndexOutOfBoundsException();
        }
        return tables.get(table);
    }

    private int product(List<Integer> labels) {
        int product = 1;
        for (int label : labels) {
            product *= sizes[label];
        }
        return product;
    }

    private static List<Integer> labels(int a, int b, int c) {
        int[] given = {a, b, c};
        List<Integer> labels = new ArrayList<>();
        boolean ended = false;
        for (int label : given) {
            if (label == -1) {
                ended = true;
                continue;
            }
            boolean rises = labels.isEmpty() || label > labels.get(labels.size() - 1);
            if (ended || label < 0 || label > 7 || !rises) {
                throw new IllegalArgumentException();
            }
            labels.add(label);
        }
        return labels;
    }

    private static int bits(TreeSet<Integer> set) {
        int bits = 0;
        for (int member : set) {
            bits += 1 << member;
        }
        return bits;
    }
}
