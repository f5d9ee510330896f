import java.util.ArrayList;
import java.util.Arrays;
import java.util.Collections;
import java.util.Comparator;
import java.util.List;
import java.util.TreeMap;

/** The document done by listing every row: slow, and for few rows alone. */
final class Oracle {
    /** A choice as it was told. */
    private static final class Option {
        int cost;
        final int[] uses;

        Option(int cost, int a, int b) {
            this.cost = cost;
            this.uses = new int[] {a, b};
        }
    }

    /** A wide node; its last choices as bits. */
    private static final class Wide {
        int cost;
        int lasts;
        int[] low = {0, 0};
        int[] high = {0, 0};

        List<Integer> state() {
            return List.of(low[0], low[1], high[0], high[1], lasts);
        }
    }

    private static final Comparator<List<Integer>> BY_FIELDS = (p, q) -> {
        for (int i = 0; i < p.size(); i++) {
            if (!p.get(i).equals(q.get(i))) {
                return p.get(i) - q.get(i);
            }
        }
        return 0;
    };

    private final List<List<Option>> steps = new ArrayList<>();
    private final List<int[]> bars = new ArrayList<>();
    private final int[] least = {0, 0};
    private final int[] most = {40, 40};
    /** Of each layer: used, used, last choice, with the rows that come to that node. */
    private List<TreeMap<List<Integer>, List<int[]>>> layers = null;
    private List<int[]> plans = null;
    private int[] narrowed = {0, 0, 0};

    private boolean hasChoice(int step, int c) {
        return step >= 0 && step < steps.size() && c >= 0 && c < steps.get(step).size();
    }

    private int barAt(int step, int a, int b) {
        for (int i = 0; i < bars.size(); i++) {
            if (Arrays.equals(bars.get(i), new int[] {step, a, b})) {
                return i;
            }
        }
        return -1;
    }

    private int used(int[] row, int k) {
        int sum = 0;
        for (int s = 0; s < row.length; s++) {
            sum += steps.get(s).get(row[s]).uses[k];
        }
        return sum;
    }

    private int costOf(int[] row, int from) {
        int sum = 0;
        for (int s = from; s < row.length; s++) {
            sum += steps.get(s).get(row[s]).cost;
        }
        return sum;
    }

    private boolean isRow(int[] row) {
        for (int s = 1; s < row.length; s++) {
            if (barAt(s - 1, row[s - 1], row[s]) >= 0) {
                return false;
            }
        }
        return used(row, 0) <= most[0] && used(row, 1) <= most[1];
    }

    private void told() {
        layers = null;
    }

    int step() {
        if (steps.size() == 12) {
            return Check.FULL;
        }
        told();
        steps.add(new ArrayList<>());
        return steps.size() - 1;
    }

    int choice(int step, int cost, int a, int b) {
        if (step < 0 || step >= steps.size() || Math.abs((long) cost) > 1000
            || a < 0 || a > 20 || b < 0 || b > 20) {
            return Check.BAD;
        }
        if (steps.get(step).size() == 6) {
            return Check.FULL;
        }
        told();
        steps.get(step).add(new Option(cost, a, b));
        return steps.get(step).size() - 1;
    }

    int cost(int step, int choice, int c) {
        if (!hasChoice(step, choice) || Math.abs((long) c) > 1000) {
            return Check.BAD;
        }
        told();
        int before = steps.get(step).get(choice).cost;
        steps.get(step).get(choice).cost = c;
        return before;
    }

    int resource(int k, int newLeast, int newMost) {
        if (k != 0 && k != 1 || newLeast < 0 || newMost > 40 || newLeast > newMost) {
            return Check.BAD;
        }
        told();
        int before = 100 * least[k] + most[k];
        least[k] = newLeast;
        most[k] = newMost;
        return before;
    }

    int bar(int step, int a, int b, boolean on) {
        if (!hasChoice(step, a) || !hasChoice(step + 1, b)) {
            return Check.BAD;
        }
        told();
        int at = barAt(step, a, b);
        if (on && at < 0) {
            bars.add(new int[] {step, a, b});
        }
        if (!on && at >= 0) {
            bars.remove(at);
        }
        return at >= 0 ? 1 : 0;
    }

    int run() {
        layers = null;
        List<TreeMap<List<Integer>, List<int[]>>> laid = new ArrayList<>();
        List<int[]> rows = new ArrayList<>();
        rows.add(new int[0]);
        int total = 0;
        for (int d = 0; d <= steps.size(); d++) {
            TreeMap<List<Integer>, List<int[]>> nodes = new TreeMap<>(BY_FIELDS);
            for (int[] row : rows) {
                List<Integer> key = List.of(used(row, 0), used(row, 1), d == 0 ? -1 : row[d - 1]);
                nodes.computeIfAbsent(key, x -> new ArrayList<>()).add(row);
            }
            if (nodes.size() > 400) {
                return Check.FULL;
            }
            total += nodes.size();
            laid.add(nodes);
            if (d < steps.size()) {
                rows = longer(rows, steps.get(d).size());
            }
        }
        layers = laid;
        plans = new ArrayList<>();
        for (int[] row : rows) {
            if (used(row, 0) >= least[0] && used(row, 1) >= least[1]) {
                plans.add(row);
            }
        }
        plans.sort((p, q) -> costOf(p, 0) != costOf(q, 0) ? costOf(p, 0) - costOf(q, 0) : Arrays.compare(p, q));
        return total;
    }

    private List<int[]> longer(List<int[]> rows, int choices) {
        List<int[]> found = new ArrayList<>();
        for (int[] row : rows) {
            for (int c = 0; c < choices; c++) {
                int[] next = Arrays.copyOf(row, row.length + 1);
                next[row.length] = c;
                if (isRow(next)) {
                    found.add(next);
                }
            }
        }
        return found;
    }

    int best() {
        return layers == null ? Check.TURN : plans.isEmpty() ? Check.NONE : costOf(plans.get(0), 0);
    }

    long many() {
        return layers == null ? Check.TURN : plans.size();
    }

    int plans() {
        return layers == null ? Check.TURN : Math.min(20, plans.size());
    }

    int plan(int k, int step) {
        if (layers == null) {
            return Check.TURN;
        }
        if (k < 0 || k >= plans() || step < -1 || step >= steps.size()) {
            return Check.BAD;
        }
        return step == -1 ? costOf(plans.get(k), 0) : plans.get(k)[step];
    }

    int layer(int d) {
        if (layers == null) {
            return Check.TURN;
        }
        return d < 0 || d >= layers.size() ? Check.BAD : layers.get(d).size();
    }

    private boolean hasNode(int d, int i) {
        return d >= 0 && d < layers.size() && i >= 0 && i < layers.get(d).size();
    }

    private List<Integer> keyOf(int d, int i) {
        return new ArrayList<>(layers.get(d).keySet()).get(i);
    }

    private int leastTo(int d, List<Integer> key) {
        List<Integer> costs = new ArrayList<>();
        for (int[] row : layers.get(d).get(key)) {
            costs.add(costOf(row, 0));
        }
        return Collections.min(costs);
    }

    /** The costs of all rows that go from a node. */
    private List<Integer> from(int d, List<Integer> key) {
        int[] row = layers.get(d).get(key).get(0);
        List<Integer> costs = new ArrayList<>();
        for (int[] plan : plans) {
            if (Arrays.equals(Arrays.copyOf(plan, d), row)) {
                costs.add(costOf(plan, d));
            }
        }
        return costs;
    }

    int node(int d, int i, int what) {
        if (layers == null) {
            return Check.TURN;
        }
        if (!hasNode(d, i) || what < 0 || what > 4) {
            return Check.BAD;
        }
        List<Integer> key = keyOf(d, i);
        if (what < 3) {
            return key.get(what);
        }
        if (what == 3) {
            return leastTo(d, key);
        }
        List<Integer> costs = from(d, key);
        return costs.isEmpty() ? Check.NONE : Collections.min(costs);
    }

    long ways(int d, int i, boolean to) {
        if (layers == null) {
            return Check.TURN;
        }
        if (!hasNode(d, i)) {
            return Check.BAD;
        }
        List<Integer> key = keyOf(d, i);
        return to ? layers.get(d).get(key).size() : from(d, key).size();
    }

    int dominated(int d, int i) {
        if (layers == null) {
            return Check.TURN;
        }
        if (!hasNode(d, i)) {
            return Check.BAD;
        }
        List<Integer> b = keyOf(d, i);
        for (int j = 0; j < layers.get(d).size(); j++) {
            List<Integer> a = keyOf(d, j);
            boolean good = j != i && a.get(2).equals(b.get(2)) && leastTo(d, a) <= leastTo(d, b);
            for (int k = 0; k < 2; k++) {
                good = good && a.get(k) <= b.get(k) && (least[k] == 0 || a.get(k).equals(b.get(k)));
            }
            if (good) {
                return j;
            }
        }
        return Check.NONE;
    }

    int leads(int d, int i, int choice) {
        if (layers == null) {
            return Check.TURN;
        }
        if (!hasNode(d, i) || !hasChoice(d, choice)) {
            return Check.BAD;
        }
        int[] row = Arrays.copyOf(layers.get(d).get(keyOf(d, i)).get(0), d + 1);
        row[d] = choice;
        if (!isRow(row)) {
            return Check.NONE;
        }
        List<Integer> key = List.of(used(row, 0), used(row, 1), choice);
        return new ArrayList<>(layers.get(d + 1).keySet()).indexOf(key);
    }

    int narrow(int w, boolean loose) {
        if (w < 1 || w > 60) {
            return Check.BAD;
        }
        narrowed = new int[] {0, 1, 0};
        List<Wide> nodes = new ArrayList<>();
        nodes.add(new Wide());
        for (int s = 0; s < steps.size(); s++) {
            nodes = cut(nextWide(nodes, s), w, loose);
        }
        int bound = Check.NONE;
        for (Wide n : nodes) {
            if (n.high[0] >= least[0] && n.high[1] >= least[1] && (bound == Check.NONE || n.cost < bound)) {
                bound = n.cost;
            }
        }
        return bound;
    }

    private List<Wide> nextWide(List<Wide> nodes, int s) {
        TreeMap<List<Integer>, Wide> next = new TreeMap<>(BY_FIELDS);
        for (Wide n : nodes) {
            for (int c = 0; c < steps.get(s).size(); c++) {
                if (isBarredBehindAll(n.lasts, s, c)) {
                    continue;
                }
                Option o = steps.get(s).get(c);
                Wide m = new Wide();
                for (int k = 0; k < 2; k++) {
                    m.low[k] = n.low[k] + o.uses[k];
                    m.high[k] = Math.min(most[k], n.high[k] + o.uses[k]);
                }
                m.cost = n.cost + o.cost;
                m.lasts = 1 << c;
                if (m.low[0] > most[0] || m.low[1] > most[1]) {
                    continue;
                }
                Wide like = next.get(m.state());
                if (like == null || like.cost > m.cost) {
                    next.put(m.state(), m);
                }
            }
        }
        return new ArrayList<>(next.values());
    }

    private boolean isBarredBehindAll(int lasts, int s, int c) {
        if (lasts == 0) {
            return false;
        }
        for (int a = 0; a < 6; a++) {
            if ((lasts >> a & 1) == 1 && barAt(s - 1, a, c) < 0) {
                return false;
            }
        }
        return true;
    }

    private List<Wide> cut(List<Wide> nodes, int w, boolean loose) {
        nodes.sort((p, q) -> p.cost != q.cost ? p.cost - q.cost : BY_FIELDS.compare(p.state(), q.state()));
        narrowed[1] = Math.max(narrowed[1], nodes.size());
        if (nodes.size() <= w) {
            return nodes;
        }
        narrowed[2]++;
        List<Wide> kept = new ArrayList<>(nodes.subList(0, loose ? w - 1 : w));
        List<Wide> rest = nodes.subList(kept.size(), nodes.size());
        narrowed[0] += rest.size();
        if (loose) {
            Wide one = new Wide();
            one.cost = Integer.MAX_VALUE;
            one.low = new int[] {99, 99};
            for (Wide n : rest) {
                one.cost = Math.min(one.cost, n.cost);
                one.lasts |= n.lasts;
                for (int k = 0; k < 2; k++) {
                    one.low[k] = Math.min(one.low[k], n.low[k]);
                    one.high[k] = Math.max(one.high[k], n.high[k]);
                }
            }
            kept.add(one);
        }
        return kept;
    }

    int narrowed(int what) {
        return what < 0 || what > 2 ? Check.BAD : narrowed[what];
    }

    int count(int what) {
        switch (what) {
            case 0:
                return steps.size();
            case 1:
                return steps.stream().mapToInt(List::size).sum();
            case 2:
                return bars.size();
            case 3:
                return layers == null ? 0 : 1;
            default:
                return Check.BAD;
        }
    }
}
