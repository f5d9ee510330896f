import java.util.Arrays;

/**
 * Rows of choices, step by step, through layers of states. The words in
 * capitals are those of the document.
 */
public final class StateTables {
    public static final int NONE = -1000000, BAD = -2000000, FULL = -3000000, TURN = -4000000;

    private static final int STEPS_AT_MOST = 12;
    private static final int CHOICES_AT_MOST = 6;
    private static final int COST_AT_MOST = 1000;
    private static final int USE_AT_MOST = 20;
    private static final int MOST_AT_MOST = 40;
    private static final int NODES_AT_MOST = 400;
    private static final int PLANS_AT_MOST = 20;
    private static final int WIDTH_AT_MOST = 60;

    /** Added to the COST of a row before it is packed, so that it is never below 0. */
    private static final int COST_SHIFT = STEPS_AT_MOST * COST_AT_MOST;

    private final Told told;
    private final Layers layers;
    private final FirstPlans firstPlans;
    private final NarrowLayers narrowLayers;
    /** Whether the latest run() holds still. */
    private boolean holds;

    public StateTables() {
        told = new Told();
        layers = new Layers(told);
        firstPlans = new FirstPlans(told, layers);
        narrowLayers = new NarrowLayers(told);
        holds = false;
    }

    // ---- what is told

    public int step() {
        if (told.steps >= STEPS_AT_MOST) {
            return FULL;
        }
        holds = false;
        return told.addStep();
    }

    public int choice(int step, int cost, int a, int b) {
        if (!told.hasStep(step) || !isCost(cost) || !isUse(a) || !isUse(b)) {
            return BAD;
        }
        if (told.sizes[step] >= CHOICES_AT_MOST) {
            return FULL;
        }
        holds = false;
        return told.addChoice(step, cost, a, b);
    }

    public int cost(int step, int choice, int c) {
        if (!told.hasChoice(step, choice) || !isCost(c)) {
            return BAD;
        }
        holds = false;
        return told.changeCost(step, choice, c);
    }

    public int resource(int k, int least, int most) {
        if (k < 0 || k > 1 || least < 0 || least > most || most > MOST_AT_MOST) {
            return BAD;
        }
        holds = false;
        return told.changeLimits(k, least, most);
    }

    public int bar(int step, int a, int b, boolean on) {
        if (!told.hasChoice(step, a) || !told.hasChoice(step + 1, b)) {
            return BAD;
        }
        holds = false;
        return told.changeBar(step, a, b, on);
    }

    public int run() {
        holds = layers.lay();
        if (!holds) {
            return FULL;
        }
        layers.lookBack();
        firstPlans.find();
        return layers.total;
    }

    // ---- plans

    public int best() {
        return holds ? layers.leastFrom(0) : TURN;
    }

    public long many() {
        return holds ? layers.waysFrom[0] : TURN;
    }

    public int plans() {
        return holds ? firstPlans.found : TURN;
    }

    public int plan(int k, int step) {
        if (!holds) {
            return TURN;
        }
        if (k < 0 || k >= firstPlans.found) {
            return BAD;
        }
        if (step == -1) {
            return firstPlans.costOf(k);
        }
        return told.hasStep(step) ? firstPlans.choiceOf(k, step) : BAD;
    }

    // ---- layers

    public int layer(int d) {
        if (!holds) {
            return TURN;
        }
        return layers.hasLayer(d) ? layers.sizeOf(d) : BAD;
    }

    public int node(int d, int i, int what) {
        if (!holds) {
            return TURN;
        }
        if (!layers.hasNode(d, i)) {
            return BAD;
        }
        int at = layers.start[d] + i;
        switch (what) {
            case 0:
                return usedOfFirst(layers.keys[at]);
            case 1:
                return usedOfSecond(layers.keys[at]);
            case 2:
                return lastChoice(layers.keys[at]);
            case 3:
                return layers.costTo[at];
            case 4:
                return layers.leastFrom(at);
            default:
                return BAD;
        }
    }

    public long ways(int d, int i, boolean to) {
        if (!holds) {
            return TURN;
        }
        if (!layers.hasNode(d, i)) {
            return BAD;
        }
        int at = layers.start[d] + i;
        return to ? layers.waysTo[at] : layers.waysFrom[at];
    }

    public int dominated(int d, int i) {
        if (!holds) {
            return TURN;
        }
        return layers.hasNode(d, i) ? layers.firstThatDominates(d, i) : BAD;
    }

    public int leads(int d, int i, int choice) {
        if (!holds) {
            return TURN;
        }
        if (!layers.hasNode(d, i) || !told.hasChoice(d, choice)) {
            return BAD;
        }
        int next = layers.nodeBehind(layers.start[d] + i, choice);
        return next < 0 ? NONE : next - layers.start[d + 1];
    }

    // ---- narrow layers

    public int narrow(int w, boolean loose) {
        if (w < 1 || w > WIDTH_AT_MOST) {
            return BAD;
        }
        return narrowLayers.findBound(w, loose);
    }

    public int narrowed(int what) {
        switch (what) {
            case 0:
                return narrowLayers.lost;
            case 1:
                return narrowLayers.widest;
            case 2:
                return narrowLayers.cuts;
            default:
                return BAD;
        }
    }

    public int count(int what) {
        switch (what) {
            case 0:
                return told.steps;
            case 1:
                return told.choices;
            case 2:
                return told.bars;
            case 3:
                return holds ? 1 : 0;
            default:
                return BAD;
        }
    }

    private static boolean isCost(int c) {
        return c >= -COST_AT_MOST && c <= COST_AT_MOST;
    }

    private static boolean isUse(int u) {
        return u >= 0 && u <= USE_AT_MOST;
    }

    /** Where a CHOICE stands in the rows that have a field for each CHOICE of each STEP. */
    private static int placeOf(int step, int choice) {
        return step * CHOICES_AT_MOST + choice;
    }

    // A NODE's key holds what is used and the last CHOICE, packed so that
    // greater keys are those of NODES with greater numbers. Six bits for the
    // second RESOURCE are enough for MOST and one USE more.

    private static int usedOfFirst(int key) {
        return key >> 9;
    }

    private static int usedOfSecond(int key) {
        return (key >> 3) & 63;
    }

    private static int lastChoice(int key) {
        return (key & 7) - 1;
    }

    private static int keyOf(int first, int second, int last) {
        return (first << 9) | (second << 3) | (last + 1);
    }

    /** STEPS, CHOICES, RESOURCES and what is BARRED. */
    private static final class Told {
        int steps;
        int choices;
        int bars;
        final int[] sizes = new int[STEPS_AT_MOST];
        final int[] costs = new int[STEPS_AT_MOST * CHOICES_AT_MOST];
        final int[] firstUses = new int[STEPS_AT_MOST * CHOICES_AT_MOST];
        final int[] secondUses = new int[STEPS_AT_MOST * CHOICES_AT_MOST];
        /** Of each CHOICE: behind which ones of the STEP before it is BARRED, CHOICE c as bit c. */
        final int[] barredBehind = new int[STEPS_AT_MOST * CHOICES_AT_MOST];
        final int[] least = {0, 0};
        final int[] most = {MOST_AT_MOST, MOST_AT_MOST};

        boolean hasStep(int step) {
            return step >= 0 && step < steps;
        }

        boolean hasChoice(int step, int choice) {
            return hasStep(step) && choice >= 0 && choice < sizes[step];
        }

        int addStep() {
            sizes[steps] = 0;
            steps++;
            return steps - 1;
        }

        int addChoice(int step, int cost, int first, int second) {
            int number = sizes[step];
            int place = placeOf(step, number);
            costs[place] = cost;
            firstUses[place] = first;
            secondUses[place] = second;
            sizes[step]++;
            choices++;
            return number;
        }

        int changeCost(int step, int choice, int cost) {
            int place = placeOf(step, choice);
            int before = costs[place];
            costs[place] = cost;
            return before;
        }

        int changeLimits(int k, int newLeast, int newMost) {
            int before = 100 * least[k] + most[k];
            least[k] = newLeast;
            most[k] = newMost;
            return before;
        }

        int changeBar(int step, int a, int b, boolean on) {
            int place = placeOf(step + 1, b);
            int before = (barredBehind[place] >> a) & 1;
            int after = on ? 1 : 0;
            barredBehind[place] ^= (before ^ after) << a;
            bars += after - before;
            return before;
        }

        boolean isWithinMost(int first, int second) {
            return first <= most[0] && second <= most[1];
        }

        boolean isEnough(int first, int second) {
            return first >= least[0] && second >= least[1];
        }
    }

    /**
     * The NODES of all LAYERS, one LAYER behind the other in the same rows. The
     * rows grow with what is laid, so that an object with few NODES stays small.
     */
    private static final class Layers {
        private static final int ALL_NODES_AT_MOST = 1 + STEPS_AT_MOST * NODES_AT_MOST;
        private static final int NODES_AT_FIRST = 16;
        private static final int NO_NODE = -1;

        private final Told told;
        int total;
        /** Where each LAYER begins, and behind the last one where it ends. */
        final int[] start = new int[STEPS_AT_MOST + 2];
        int[] keys = new int[NODES_AT_FIRST];
        int[] costTo = new int[NODES_AT_FIRST];
        /** Means something only where waysFrom is above 0. */
        int[] costFrom = new int[NODES_AT_FIRST];
        long[] waysTo = new long[NODES_AT_FIRST];
        long[] waysFrom = new long[NODES_AT_FIRST];
        /** Of each NODE and CHOICE: the NODE behind; while a LAYER is being laid, that one's key. */
        private int[] behind = new int[NODES_AT_FIRST * CHOICES_AT_MOST];
        /** Of each CHOICE: the first NODE of the LAYER from which it has not been followed. */
        private final int[] cursors = new int[CHOICES_AT_MOST];

        Layers(Told told) {
            this.told = told;
        }

        boolean hasLayer(int d) {
            return d >= 0 && d <= told.steps;
        }

        boolean hasNode(int d, int i) {
            return hasLayer(d) && i >= 0 && i < sizeOf(d);
        }

        int sizeOf(int d) {
            return start[d + 1] - start[d];
        }

        int nodeBehind(int at, int choice) {
            return behind[at * CHOICES_AT_MOST + choice];
        }

        int leastFrom(int at) {
            return waysFrom[at] > 0 ? costFrom[at] : NONE;
        }

        /** Lays all LAYERS as far as TO goes; false if one would have too many NODES. */
        boolean lay() {
            keys[0] = keyOf(0, 0, -1);
            costTo[0] = 0;
            waysTo[0] = 1;
            start[0] = 0;
            start[1] = 1;
            total = 1;
            for (int d = 0; d < told.steps; d++) {
                if (!layBehind(d)) {
                    return false;
                }
            }
            return true;
        }

        /**
         * NODES of LAYER d stand in order, so each CHOICE alone leads to keys
         * in order too: the next LAYER is laid by always following the CHOICE
         * whose next key is the least.
         */
        private boolean layBehind(int d) {
            growTo(total + Math.min(NODES_AT_MOST, sizeOf(d) * told.sizes[d]));
            for (int c = 0; c < told.sizes[d]; c++) {
                findKeysBehind(d, c);
                cursors[c] = start[d];
                skipUnfollowed(d, c);
            }
            for (int made = 0; made <= NODES_AT_MOST; made++) {
                int c = choiceWithLeastKey(d);
                if (c < 0) {
                    start[d + 2] = total;
                    return true;
                }
                if (made < NODES_AT_MOST) {
                    addNode(d, c);
                }
            }
            return false;
        }

        private void growTo(int needed) {
            if (needed <= keys.length) {
                return;
            }
            int size = Math.max(needed, Math.min(2 * keys.length, ALL_NODES_AT_MOST));
            keys = Arrays.copyOf(keys, size);
            costTo = Arrays.copyOf(costTo, size);
            costFrom = Arrays.copyOf(costFrom, size);
            waysTo = Arrays.copyOf(waysTo, size);
            waysFrom = Arrays.copyOf(waysFrom, size);
            behind = Arrays.copyOf(behind, size * CHOICES_AT_MOST);
        }

        private void findKeysBehind(int d, int c) {
            int place = placeOf(d, c);
            for (int at = start[d]; at < start[d + 1]; at++) {
                int last = lastChoice(keys[at]);
                int first = usedOfFirst(keys[at]) + told.firstUses[place];
                int second = usedOfSecond(keys[at]) + told.secondUses[place];
                boolean barred = last >= 0 && ((told.barredBehind[place] >> last) & 1) == 1;
                boolean open = !barred && told.isWithinMost(first, second);
                behind[at * CHOICES_AT_MOST + c] = open ? keyOf(first, second, c) : NO_NODE;
            }
        }

        private void skipUnfollowed(int d, int c) {
            int at = cursors[c];
            while (at < start[d + 1] && nodeBehind(at, c) == NO_NODE) {
                at++;
            }
            cursors[c] = at;
        }

        private int choiceWithLeastKey(int d) {
            int found = -1;
            int leastKey = 0;
            for (int c = 0; c < told.sizes[d]; c++) {
                if (cursors[c] < start[d + 1]) {
                    int key = nodeBehind(cursors[c], c);
                    if (found < 0 || key < leastKey) {
                        found = c;
                        leastKey = key;
                    }
                }
            }
            return found;
        }

        /** Keys of different CHOICES differ, so all that leads to the new NODE is this CHOICE. */
        private void addNode(int d, int c) {
            int key = nodeBehind(cursors[c], c);
            int cost = told.costs[placeOf(d, c)];
            int made = total;
            total++;
            keys[made] = key;
            costTo[made] = costTo[cursors[c]] + cost;
            waysTo[made] = 0;
            while (cursors[c] < start[d + 1] && nodeBehind(cursors[c], c) == key) {
                int at = cursors[c];
                behind[at * CHOICES_AT_MOST + c] = made;
                costTo[made] = Math.min(costTo[made], costTo[at] + cost);
                waysTo[made] += waysTo[at];
                cursors[c] = at + 1;
                skipUnfollowed(d, c);
            }
        }

        /** Finds what goes FROM each NODE, once all LAYERS are laid. */
        void lookBack() {
            for (int at = start[told.steps]; at < total; at++) {
                boolean enough = told.isEnough(usedOfFirst(keys[at]), usedOfSecond(keys[at]));
                waysFrom[at] = enough ? 1 : 0;
                costFrom[at] = 0;
            }
            for (int d = told.steps - 1; d >= 0; d--) {
                for (int at = start[d]; at < start[d + 1]; at++) {
                    lookBackFrom(d, at);
                }
            }
        }

        private void lookBackFrom(int d, int at) {
            long ways = 0;
            int leastCost = 0;
            for (int c = 0; c < told.sizes[d]; c++) {
                int next = nodeBehind(at, c);
                if (next >= 0 && waysFrom[next] > 0) {
                    int cost = costFrom[next] + told.costs[placeOf(d, c)];
                    leastCost = ways == 0 ? cost : Math.min(leastCost, cost);
                    ways += waysFrom[next];
                }
            }
            waysFrom[at] = ways;
            costFrom[at] = leastCost;
        }

        /** A NODE that has used no more stands ahead, so the search ends at the NODE itself. */
        int firstThatDominates(int d, int i) {
            int b = start[d] + i;
            for (int a = start[d]; a < b; a++) {
                if (isAsGood(a, b)) {
                    return a - start[d];
                }
            }
            return NONE;
        }

        private boolean isAsGood(int a, int b) {
            return lastChoice(keys[a]) == lastChoice(keys[b])
                && costTo[a] <= costTo[b]
                && isAsGoodOf(0, usedOfFirst(keys[a]), usedOfFirst(keys[b]))
                && isAsGoodOf(1, usedOfSecond(keys[a]), usedOfSecond(keys[b]));
        }

        private boolean isAsGoodOf(int k, int usedByA, int usedByB) {
            return told.least[k] > 0 ? usedByA == usedByB : usedByA <= usedByB;
        }
    }

    /**
     * The first PLANS in ORDER. A ROW on the way to them is one number: the least
     * COST of a PLAN that begins with it, then its CHOICES, three bits each, the
     * first one highest, so that lesser numbers come first in ORDER. As each
     * ROW kept begins some PLAN, twenty of each length are enough.
     */
    private static final class FirstPlans {
        private static final int BITS_OF_A_CHOICE = 3;
        private static final int BITS_OF_CHOICES = BITS_OF_A_CHOICE * STEPS_AT_MOST;

        private final Told told;
        private final Layers layers;
        int found;
        private long[] rows = new long[PLANS_AT_MOST];
        private int[] ends = new int[PLANS_AT_MOST];
        private int longerFound;
        private long[] longerRows = new long[PLANS_AT_MOST];
        private int[] longerEnds = new int[PLANS_AT_MOST];

        FirstPlans(Told told, Layers layers) {
            this.told = told;
            this.layers = layers;
        }

        int costOf(int k) {
            return (int) (rows[k] >> BITS_OF_CHOICES) - COST_SHIFT;
        }

        int choiceOf(int k, int step) {
            return (int) (rows[k] >> bitsBehind(step)) & 7;
        }

        private static int bitsBehind(int step) {
            return BITS_OF_A_CHOICE * (STEPS_AT_MOST - 1 - step);
        }

        void find() {
            found = 0;
            if (layers.waysFrom[0] == 0) {
                return;
            }
            rows[0] = (long) (layers.costFrom[0] + COST_SHIFT) << BITS_OF_CHOICES;
            ends[0] = 0;
            found = 1;
            for (int step = 0; step < told.steps; step++) {
                lengthenAll(step);
            }
        }

        private void lengthenAll(int step) {
            longerFound = 0;
            for (int k = 0; k < found; k++) {
                for (int c = 0; c < told.sizes[step]; c++) {
                    lengthen(k, step, c);
                }
            }
            long[] oldRows = rows;
            int[] oldEnds = ends;
            rows = longerRows;
            ends = longerEnds;
            found = longerFound;
            longerRows = oldRows;
            longerEnds = oldEnds;
        }

        private void lengthen(int k, int step, int c) {
            int end = ends[k];
            int next = layers.nodeBehind(end, c);
            if (next < 0 || layers.waysFrom[next] == 0) {
                return;
            }
            int more = told.costs[placeOf(step, c)] + layers.costFrom[next] - layers.costFrom[end];
            long row = rows[k] + ((long) more << BITS_OF_CHOICES) + ((long) c << bitsBehind(step));
            keepIfAmongFirst(row, next);
        }

        private void keepIfAmongFirst(long row, int end) {
            if (longerFound == PLANS_AT_MOST) {
                if (row > longerRows[PLANS_AT_MOST - 1]) {
                    return;
                }
                longerFound--;
            }
            int at = longerFound;
            while (at > 0 && longerRows[at - 1] > row) {
                longerRows[at] = longerRows[at - 1];
                longerEnds[at] = longerEnds[at - 1];
                at--;
            }
            longerRows[at] = row;
            longerEnds[at] = end;
            longerFound++;
        }
    }

    /**
     * NARROW LAYERS. A WIDE NODE is one number: its COST, then its state (both
     * LOWS, both HIGHS, the last CHOICES, six bits each), so that lesser numbers
     * come first in order.
     */
    private static final class NarrowLayers {
        private static final int STATE_BITS = 30;
        private static final int COST_BITS = 15;
        private static final long STATE_MASK = (1L << STATE_BITS) - 1;
        private static final long COST_MASK = (1L << COST_BITS) - 1;
        private static final int WIDE_NODES_AT_MOST = WIDTH_AT_MOST * CHOICES_AT_MOST;

        private final Told told;
        int lost;
        int widest;
        int cuts;
        private int size;
        private long[] nodes = new long[WIDE_NODES_AT_MOST];
        private int nextSize;
        private long[] nextNodes = new long[WIDE_NODES_AT_MOST];

        NarrowLayers(Told told) {
            this.told = told;
        }

        private static long wideNode(int cost, int low0, int low1, int high0, int high1, int lasts) {
            long state = ((((((long) low0 << 6) | low1) << 6 | high0) << 6) | high1) << 6 | lasts;
            return ((long) (cost + COST_SHIFT) << STATE_BITS) | state;
        }

        private static int costOf(long node) {
            return (int) (node >> STATE_BITS) - COST_SHIFT;
        }

        private static int lowOfFirst(long node) {
            return (int) (node >> 24) & 63;
        }

        private static int lowOfSecond(long node) {
            return (int) (node >> 18) & 63;
        }

        private static int highOfFirst(long node) {
            return (int) (node >> 12) & 63;
        }

        private static int highOfSecond(long node) {
            return (int) (node >> 6) & 63;
        }

        private static int lastsOf(long node) {
            return (int) node & 63;
        }

        int findBound(int w, boolean loose) {
            lost = 0;
            widest = 1;
            cuts = 0;
            nodes[0] = wideNode(0, 0, 0, 0, 0, 0);
            size = 1;
            for (int step = 0; step < told.steps; step++) {
                layBehind(step);
                widest = Math.max(widest, size);
                if (size > w) {
                    cutTo(w, loose);
                }
            }
            return leastCostOfEnough();
        }

        private void layBehind(int step) {
            nextSize = 0;
            for (int i = 0; i < size; i++) {
                for (int c = 0; c < told.sizes[step]; c++) {
                    follow(nodes[i], step, c);
                }
            }
            uniteAlike();
            sort(nextNodes, nodes, nextSize);
            long[] old = nodes;
            nodes = nextNodes;
            size = nextSize;
            nextNodes = old;
        }

        private void follow(long node, int step, int c) {
            int place = placeOf(step, c);
            int lasts = lastsOf(node);
            boolean barred = lasts != 0 && (lasts & ~told.barredBehind[place]) == 0;
            int first = told.firstUses[place];
            int second = told.secondUses[place];
            int low0 = lowOfFirst(node) + first;
            int low1 = lowOfSecond(node) + second;
            if (barred || !told.isWithinMost(low0, low1)) {
                return;
            }
            int high0 = Math.min(highOfFirst(node) + first, told.most[0]);
            int high1 = Math.min(highOfSecond(node) + second, told.most[1]);
            int cost = costOf(node) + told.costs[place];
            nextNodes[nextSize] = wideNode(cost, low0, low1, high0, high1, 1 << c);
            nextSize++;
        }

        /** With the state ahead of the COST, like NODES stand together, the cheapest first. */
        private void uniteAlike() {
            for (int i = 0; i < nextSize; i++) {
                long node = nextNodes[i];
                nextNodes[i] = ((node & STATE_MASK) << COST_BITS) | (node >> STATE_BITS);
            }
            sort(nextNodes, nodes, nextSize);
            int kept = 0;
            long stateBefore = -1;
            for (int i = 0; i < nextSize; i++) {
                long state = nextNodes[i] >> COST_BITS;
                if (state != stateBefore) {
                    nextNodes[kept] = ((nextNodes[i] & COST_MASK) << STATE_BITS) | state;
                    kept++;
                }
                stateBefore = state;
            }
            nextSize = kept;
        }

        private void cutTo(int w, boolean loose) {
            cuts++;
            if (loose) {
                nodes[w - 1] = uniteFrom(w - 1);
                lost += size - w + 1;
            } else {
                lost += size - w;
            }
            size = w;
        }

        private long uniteFrom(int begin) {
            int cost = costOf(nodes[begin]);
            int low0 = lowOfFirst(nodes[begin]);
            int low1 = lowOfSecond(nodes[begin]);
            int high0 = highOfFirst(nodes[begin]);
            int high1 = highOfSecond(nodes[begin]);
            int lasts = lastsOf(nodes[begin]);
            for (int i = begin + 1; i < size; i++) {
                cost = Math.min(cost, costOf(nodes[i]));
                low0 = Math.min(low0, lowOfFirst(nodes[i]));
                low1 = Math.min(low1, lowOfSecond(nodes[i]));
                high0 = Math.max(high0, highOfFirst(nodes[i]));
                high1 = Math.max(high1, highOfSecond(nodes[i]));
                lasts |= lastsOf(nodes[i]);
            }
            return wideNode(cost, low0, low1, high0, high1, lasts);
        }

        /** NODES stand by COST, and one that others were united into has the place of their least. */
        private int leastCostOfEnough() {
            for (int i = 0; i < size; i++) {
                if (told.isEnough(highOfFirst(nodes[i]), highOfSecond(nodes[i]))) {
                    return costOf(nodes[i]);
                }
            }
            return NONE;
        }

        /** Merges ever longer runs; spare is at least as long as row, and its content is lost. */
        private static void sort(long[] row, long[] spare, int length) {
            for (int width = 1; width < length; width *= 2) {
                for (int left = 0; left < length; left += 2 * width) {
                    int middle = Math.min(left + width, length);
                    merge(row, spare, left, middle, Math.min(middle + width, length));
                }
                System.arraycopy(spare, 0, row, 0, length);
            }
        }

        private static void merge(long[] from, long[] to, int left, int middle, int right) {
            int a = left;
            int b = middle;
            for (int i = left; i < right; i++) {
                if (b >= right || (a < middle && from[a] <= from[b])) {
                    to[i] = from[a];
                    a++;
                } else {
                    to[i] = from[b];
                    b++;
                }
            }
        }
    }
}
