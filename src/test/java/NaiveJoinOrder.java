import java.math.BigInteger;
import java.util.ArrayList;
import java.util.HashMap;
import java.util.HashSet;
import java.util.List;
import java.util.Map;
import java.util.Set;
import java.util.TreeMap;

/**
 * The document once more, word by word and without any thrift: all orders are tried, fractions are exact, ROWS are maps.
 * It shares no code and no way of holding things with the class, so that a mistake is not made twice.
 */
final class NaiveJoinOrder {
    private record Triple(int s, int p, int o) {
        int[] parts() {
            return new int[] {s, p, o};
        }
    }

    private static final class Pattern {
        int[] slots;
        int of = -1;
        Integer told;
    }

    private record Filter(int variable, int kind, int value, boolean safe) {
    }

    private static final class Row {
        final Map<Integer, Integer> binds = new TreeMap<>();
        final Set<Integer> missed = new HashSet<>();

        Row copy() {
            Row copy = new Row();
            copy.binds.putAll(binds);
            copy.missed.addAll(missed);
            return copy;
        }
    }

    private final List<Triple> triples = new ArrayList<>();
    private final List<Pattern> patterns = new ArrayList<>();
    private final List<Filter> filters = new ArrayList<>();
    private final List<int[]> hints = new ArrayList<>();

    private List<Integer> planOrder = new ArrayList<>();
    private final List<Integer> planJoins = new ArrayList<>();
    private final List<Long> planEstimates = new ArrayList<>();
    private final List<Integer> planFilterSteps = new ArrayList<>();
    /** null before any run, and behind one that had no room. */
    private List<Row> lastRows;

    private final Map<Set<Integer>, BigInteger> knownEstimates = new HashMap<>();
    private List<Integer> best;
    private BigInteger bestCost;

    int triple(int s, int p, int o) {
        if (!term(s) || !term(p) || !term(o)) {
            return -2;
        }
        Triple told = new Triple(s, p, o);
        if (!triples.contains(told)) {
            if (triples.size() == 80) {
                return -4;
            }
            triples.add(told);
        }
        return triples.size();
    }

    int pattern(int s, int p, int o) {
        for (int x : new int[] {s, p, o}) {
            if (!term(x) && !variable(x)) {
                return -2;
            }
        }
        if (patterns.size() == 8) {
            return -4;
        }
        Pattern made = new Pattern();
        made.slots = new int[] {s, p, o};
        patterns.add(made);
        return patterns.size() - 1;
    }

    int optional(int pattern, int of) {
        if (!known(pattern) || !known(of)) {
            return -1;
        }
        if (patterns.get(pattern).of >= 0 || hints.stream().anyMatch(h -> h[0] == pattern || h[1] == pattern)) {
            return -3;
        }
        for (int at = of; at >= 0; at = patterns.get(at).of) {
            if (at == pattern) {
                return -3;
            }
        }
        patterns.get(pattern).of = of;
        return 1;
    }

    int filter(int variable, int kind, int value, boolean safe) {
        if (!variable(variable) || kind < 0 || kind > 3 || !term(value)) {
            return -2;
        }
        if (filters.size() == 8) {
            return -4;
        }
        filters.add(new Filter(variable, kind, value, safe));
        return filters.size() - 1;
    }

    int cost(int pattern, int size) {
        if (!known(pattern)) {
            return -1;
        }
        if (size < -1 || size > 100) {
            return -2;
        }
        patterns.get(pattern).told = size == -1 ? null : size;
        return 1;
    }

    int hint(int pattern, int other) {
        if (!known(pattern) || !known(other)) {
            return -1;
        }
        if (patterns.get(pattern).of >= 0 || patterns.get(other).of >= 0 || pattern == other
                || toldBefore(other, pattern, 0)) {
            return -3;
        }
        hints.add(new int[] {pattern, other});
        return 1;
    }

    private boolean toldBefore(int first, int second, int depth) {
        if (depth > 8) {
            return false;
        }
        for (int[] h : hints) {
            if (h[0] == first && (h[1] == second || toldBefore(h[1], second, depth + 1))) {
                return true;
            }
        }
        return false;
    }

    int plan() {
        knownEstimates.clear();
        best = null;
        bestCost = null;
        tryAll(new ArrayList<>(), BigInteger.ZERO);
        int required = best.size();
        planOrder = withOptional(best);
        planJoins.clear();
        planEstimates.clear();
        for (int i = 0; i < planOrder.size(); i++) {
            int p = planOrder.get(i);
            List<Integer> before = planOrder.subList(0, Math.min(i, required));
            List<Integer> upTo = planOrder.subList(0, Math.min(i + 1, required));
            planEstimates.add(estimateOf(upTo).longValueExact());
            planJoins.add(i >= required ? 4 : i == 0 ? 0 : !shares(p, before) ? 1
                    : estimateOf(before).compareTo(BigInteger.valueOf(size(p))) <= 0 ? 2 : 3);
        }
        planFilterSteps.clear();
        for (Filter f : filters) {
            int step = planOrder.size() - 1;
            for (int i = required - 1; i >= 0 && f.safe; i--) {
                if (variables(planOrder.get(i)).contains(f.variable)) {
                    step = i;
                }
            }
            planFilterSteps.add(step);
        }
        return planOrder.size();
    }

    private void tryAll(List<Integer> order, BigInteger costs) {
        List<Integer> could = new ArrayList<>();
        for (int p = 0; p < patterns.size(); p++) {
            if (patterns.get(p).of < 0 && !order.contains(p) && hintsAllow(p, order)) {
                could.add(p);
            }
        }
        if (could.isEmpty()) {
            if (bestCost == null || costs.compareTo(bestCost) < 0) {
                best = new ArrayList<>(order);
                bestCost = costs;
            }
            return;
        }
        boolean anyShares = could.stream().anyMatch(p -> shares(p, order));
        for (int p : could) {
            if (order.isEmpty() || !anyShares || shares(p, order)) {
                order.add(p);
                tryAll(order, costs.add(estimateOf(order)));
                order.remove(order.size() - 1);
            }
        }
    }

    private boolean hintsAllow(int p, List<Integer> order) {
        return hints.stream().allMatch(h -> h[1] != p || order.contains(h[0]));
    }

    private boolean shares(int p, List<Integer> before) {
        for (int other : before) {
            for (int v : variables(p)) {
                if (variables(other).contains(v)) {
                    return true;
                }
            }
        }
        return false;
    }

    private List<Integer> withOptional(List<Integer> required) {
        List<Integer> order = new ArrayList<>(required);
        while (order.size() < patterns.size()) {
            int next = -1;
            for (int p = patterns.size() - 1; p >= 0; p--) {
                if (!order.contains(p) && order.contains(patterns.get(p).of)) {
                    next = p;
                }
            }
            order.add(next);
        }
        return order;
    }

    private BigInteger estimateOf(List<Integer> members) {
        return knownEstimates.computeIfAbsent(new HashSet<>(members), this::estimateAnew);
    }

    private BigInteger estimateAnew(Set<Integer> set) {
        BigInteger above = BigInteger.ONE;
        BigInteger below = BigInteger.ONE;
        for (int p : set) {
            above = above.multiply(BigInteger.valueOf(size(p)));
        }
        for (int v = -1; v >= -8; v--) {
            List<Integer> spreads = new ArrayList<>();
            for (int p : set) {
                if (variables(p).contains(v)) {
                    spreads.add(spread(p, v));
                }
            }
            spreads.sort(null);
            for (int i = 1; i < spreads.size(); i++) {
                below = below.multiply(BigInteger.valueOf(spreads.get(i)));
            }
        }
        return above.add(below).subtract(BigInteger.ONE).divide(below);
    }

    private int size(int p) {
        Integer told = patterns.get(p).told;
        return told != null ? told : (int) triples.stream().filter(t -> bound(p, t, new Row()) != null).count();
    }

    private int spread(int p, int v) {
        Set<Integer> terms = new HashSet<>();
        for (Triple t : triples) {
            Row row = bound(p, t, new Row());
            if (row != null) {
                terms.add(row.binds.get(v));
            }
        }
        return Math.max(1, terms.size());
    }

    private Set<Integer> variables(int p) {
        Set<Integer> found = new HashSet<>();
        for (int x : patterns.get(p).slots) {
            if (x < 0) {
                found.add(x);
            }
        }
        return found;
    }

    private Row bound(int p, Triple t, Row from) {
        Row row = from.copy();
        for (int i = 0; i < 3; i++) {
            int slot = patterns.get(p).slots[i];
            int term = t.parts()[i];
            if (slot >= 0 ? slot != term : row.binds.getOrDefault(slot, term) != term) {
                return null;
            }
            if (slot < 0) {
                row.binds.put(slot, term);
            }
        }
        return row;
    }

    int step(int i, int what) {
        if (i < 0 || i >= planOrder.size()) {
            return -1;
        }
        if (what == 0) {
            return planOrder.get(i);
        }
        if (what == 1) {
            return planJoins.get(i);
        }
        return what == 2 ? (int) planFilterSteps.stream().filter(s -> s == i).count() : -2;
    }

    long estimate(int i) {
        return i < 0 || i >= planOrder.size() ? -1 : planEstimates.get(i);
    }

    int move(int filter) {
        if (filter < 0 || filter >= planFilterSteps.size()) {
            return -1;
        }
        return planOrder.isEmpty() ? -3 : planFilterSteps.get(filter);
    }

    int run() {
        plan();
        lastRows = rowsOf(planOrder, planFilterSteps);
        return lastRows == null ? -4 : lastRows.size();
    }

    /** Null if there is no room. */
    private List<Row> rowsOf(List<Integer> order, List<Integer> filterSteps) {
        List<Row> rows = new ArrayList<>();
        rows.add(new Row());
        for (int i = 0; i < order.size(); i++) {
            List<Row> next = new ArrayList<>();
            for (Row row : rows) {
                next.addAll(extended(row, order.get(i)));
                if (next.size() > 500) {
                    return null;
                }
            }
            rows = sifted(next, filterSteps, i);
        }
        return order.isEmpty() && !filters.isEmpty() ? new ArrayList<>() : rows;
    }

    private List<Row> extended(Row row, int p) {
        List<Row> found = new ArrayList<>();
        int of = patterns.get(p).of;
        if (of < 0 || !row.missed.contains(of)) {
            for (Triple t : triples) {
                Row longer = bound(p, t, row);
                if (longer != null) {
                    found.add(longer);
                }
            }
        }
        if (found.isEmpty() && of >= 0) {
            Row left = row.copy();
            left.missed.add(p);
            found.add(left);
        }
        return found;
    }

    private List<Row> sifted(List<Row> rows, List<Integer> filterSteps, int step) {
        List<Row> left = new ArrayList<>();
        for (Row row : rows) {
            boolean all = true;
            for (int f = 0; f < filters.size(); f++) {
                all &= filterSteps.get(f) != step || holds(filters.get(f), row.binds.get(filters.get(f).variable));
            }
            if (all) {
                left.add(row);
            }
        }
        return left;
    }

    private static boolean holds(Filter f, Integer term) {
        if (term == null) {
            return false;
        }
        return switch (f.kind) {
            case 0 -> term == f.value;
            case 1 -> term != f.value;
            case 2 -> term < f.value;
            default -> term > f.value;
        };
    }

    int row(int i, int variable) {
        if (lastRows == null || i < 0 || i >= lastRows.size()) {
            return -1;
        }
        return variable(variable) ? lastRows.get(i).binds.getOrDefault(variable, -1) : -2;
    }

    int plain() {
        List<Row> rows = plainRows();
        return rows == null ? -4 : rows.size();
    }

    private List<Row> plainRows() {
        List<Integer> required = new ArrayList<>();
        for (int p = 0; p < patterns.size(); p++) {
            if (patterns.get(p).of < 0) {
                required.add(p);
            }
        }
        List<Integer> last = new ArrayList<>();
        for (int f = 0; f < filters.size(); f++) {
            last.add(patterns.size() - 1);
        }
        return rowsOf(withOptional(required), last);
    }

    boolean keeps() {
        List<Row> plain = plainRows();
        if (plain == null || lastRows == null) {
            return false;
        }
        return counted(plain).equals(counted(lastRows));
    }

    private static Map<Map<Integer, Integer>, Integer> counted(List<Row> rows) {
        Map<Map<Integer, Integer>, Integer> counts = new HashMap<>();
        for (Row row : rows) {
            counts.merge(row.binds, 1, Integer::sum);
        }
        return counts;
    }

    private boolean known(int pattern) {
        return pattern >= 0 && pattern < patterns.size();
    }

    private static boolean term(int x) {
        return x >= 0 && x <= 31;
    }

    private static boolean variable(int x) {
        return x <= -1 && x >= -8;
    }
}
