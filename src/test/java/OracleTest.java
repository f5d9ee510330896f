/** All promises: long runs of calls, right and wrong ones, answered as the oracle does. */
public final class OracleTest {
    private static final int OBJECTS = 1200;
    private static final int CALLS = 512;
    /** Kept low for the oracle, which lists every row. */
    private static final int ROWS_AT_MOST = 3000;

    private static final Check check = new Check();
    private static final int[] asked = new int[18];
    private static long seed = 20261115;

    private StateTables x = new StateTables();
    private Oracle oracle = new Oracle();
    private final int[] sizes = new int[12];
    private int steps = 0;
    private int made = 0;
    /** What this object's choices are like. */
    private final int stepsAtMost = 1 + below(chance(5) ? 12 : 5);
    private final int choicesAtMost = 1 + below(6);
    private final int useAtMost = new int[] {0, 1, 3, 8, 20}[below(5)];
    private final int costAtMost = new int[] {0, 2, 10, 1000}[below(4)];
    private final boolean wild = chance(4);

    public static void main(String[] args) {
        for (int n = 0; n < OBJECTS && check.wrongSoFar() < 20; n++) {
            new OracleTest().calls();
        }
        for (int call = 0; call < asked.length; call++) {
            check.due("call " + call + " was asked often", asked[call] > 1000);
        }
        check.end();
    }

    /** The same row of numbers on every machine. */
    private static int below(int bound) {
        seed = seed * 6364136223846793005L + 1442695040888963407L;
        return (int) ((seed >>> 33) % bound);
    }

    private static boolean chance(int oneIn) {
        return below(oneIn) == 0;
    }

    /** Mostly 0 .. bound, now and then beside it or far off. */
    private int near(int bound) {
        if (!wild || !chance(12)) {
            return below(bound + 1);
        }
        int[] off = {-1, -2, bound + 1, Integer.MIN_VALUE, Integer.MAX_VALUE, Integer.MAX_VALUE - 1};
        return off[below(off.length)];
    }

    private long rows() {
        long rows = 1;
        for (int s = 0; s < steps; s++) {
            rows *= Math.max(1, sizes[s]);
        }
        return rows;
    }

    private void calls() {
        int build = 20 + below(80);
        // A turn makes four calls at most, and some make none.
        for (int n = 0; n < 2 * CALLS && made <= CALLS - 4; n++) {
            int r = below(100);
            if (n < 4 * stepsAtMost && !wild) {
                tell(n % 4 == 0 ? 0 : 30);
            } else if (n < build ? r < 80 : r < 4) {
                tell(below(100));
            } else if (r % 12 == 0) {
                due("run()", 5, x.run(), oracle.run());
            } else {
                ask(6 + below(12));
            }
        }
    }

    private void due(String call, int number, long got, long want) {
        asked[number]++;
        made++;
        check.due(call, got, want);
    }

    private void tell(int r) {
        if (r < 15) {
            tellStep();
        } else if (r < 65) {
            tellChoice();
        } else if (r < 75) {
            int s = near(Math.max(0, steps - 1)), c = near(choicesAtMost - 1), cost = near(2 * costAtMost) - costAtMost;
            due("cost(" + s + ", " + c + ", " + cost + ")", 2, x.cost(s, c, cost), oracle.cost(s, c, cost));
        } else if (r < 82) {
            int k = near(1), most = near(40), least = chance(4) ? near(Math.max(0, Math.min(most, 12))) : 0;
            due("resource(" + k + ", " + least + ", " + most + ")", 3,
                x.resource(k, least, most), oracle.resource(k, least, most));
        } else {
            int s = near(Math.max(0, steps - 2)), a = near(choicesAtMost - 1), b = near(choicesAtMost - 1);
            boolean on = !chance(4);
            due("bar(" + s + ", " + a + ", " + b + ", " + on + ")", 4, x.bar(s, a, b, on), oracle.bar(s, a, b, on));
        }
    }

    private void tellStep() {
        if (steps >= stepsAtMost && steps < 12) {
            return;
        }
        due("step()", 0, x.step(), oracle.step());
        steps = oracle.count(0);
    }

    private void tellChoice() {
        int s = near(Math.max(0, steps - 1));
        if (s >= 0 && s < steps && (sizes[s] < 6 && sizes[s] >= choicesAtMost
            || rows() / Math.max(1, sizes[s]) * (sizes[s] + 1) > ROWS_AT_MOST)) {
            return;
        }
        int cost = near(2 * costAtMost) - costAtMost, a = near(useAtMost), b = chance(3) ? 0 : near(useAtMost);
        int got = x.choice(s, cost, a, b);
        due("choice(" + s + ", " + cost + ", " + a + ", " + b + ")", 1, got, oracle.choice(s, cost, a, b));
        if (got >= 0) {
            sizes[s] = got + 1;
        }
    }

    private void ask(int call) {
        int d = near(steps);
        int i = near(Math.max(0, oracle.layer(d) - 1));
        int what = near(4);
        switch (call) {
            case 6: due("best()", call, x.best(), oracle.best()); break;
            case 7: due("many()", call, x.many(), oracle.many()); break;
            case 8: due("plans()", call, x.plans(), oracle.plans()); break;
            case 9: askPlan(near(Math.max(0, oracle.plans() - 1)), near(steps) - 1); break;
            case 10: due("layer(" + d + ")", call, x.layer(d), oracle.layer(d)); break;
            case 11: due("node(" + d + ", " + i + ", " + what + ")", call,
                x.node(d, i, what), oracle.node(d, i, what)); break;
            case 12: askWays(d, i, chance(2)); break;
            case 13: due("dominated(" + d + ", " + i + ")", call, x.dominated(d, i), oracle.dominated(d, i)); break;
            case 14: askLeads(d, i, near(choicesAtMost - 1)); break;
            case 15: askNarrow(chance(3) ? 1 + near(59) : 1 + near(7), chance(2)); break;
            case 16: due("narrowed(" + what + ")", call, x.narrowed(what), oracle.narrowed(what)); break;
            default: due("count(" + what + ")", call, x.count(what), oracle.count(what)); break;
        }
    }

    private void askPlan(int k, int s) {
        due("plan(" + k + ", " + s + ")", 9, x.plan(k, s), oracle.plan(k, s));
    }

    private void askWays(int d, int i, boolean to) {
        due("ways(" + d + ", " + i + ", " + to + ")", 12, x.ways(d, i, to), oracle.ways(d, i, to));
    }

    private void askLeads(int d, int i, int c) {
        due("leads(" + d + ", " + i + ", " + c + ")", 14, x.leads(d, i, c), oracle.leads(d, i, c));
    }

    private void askNarrow(int w, boolean loose) {
        due("narrow(" + w + ", " + loose + ")", 15, x.narrow(w, loose), oracle.narrow(w, loose));
        for (int what = 0; what < 3; what++) {
            due("narrowed(" + what + ")", 16, x.narrowed(what), oracle.narrowed(what));
        }
    }
}
