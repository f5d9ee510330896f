/** Promises 17 and 18: narrow layers. */
public final class NarrowTest {
    private static final Check check = new Check();

    public static void main(String[] args) {
        noSteps();
        stepWithoutChoices();
        wrongInputs();
        looseAndNot();
        looseBars();
        leastByHigh();
        highStopsAtMost();
        tiesByStates();
        runIsNotNeeded();
        check.end();
    }

    private static void dueNarrowed(StateTables x, String when, int lost, int widest, int cuts) {
        check.due(when + ": narrowed(0)", x.narrowed(0), lost);
        check.due(when + ": narrowed(1)", x.narrowed(1), widest);
        check.due(when + ": narrowed(2)", x.narrowed(2), cuts);
    }

    private static void noSteps() {
        StateTables x = new StateTables();
        dueNarrowed(x, "before", 0, 0, 0);
        check.due("no steps", x.narrow(1, true), 0);
        dueNarrowed(x, "no steps", 0, 1, 0);
        x.resource(0, 1, 40);
        check.due("no steps, least", x.narrow(1, false), Check.NONE);
    }

    private static void stepWithoutChoices() {
        StateTables x = new StateTables();
        x.step();
        x.step();
        x.choice(0, 1, 0, 0);
        x.choice(0, 1, 0, 0);
        check.due("no choices", x.narrow(1, true), Check.NONE);
        dueNarrowed(x, "no choices", 2, 2, 1);
    }

    private static void wrongInputs() {
        StateTables x = new StateTables();
        x.step();
        x.choice(0, 3, 0, 0);
        x.choice(0, 4, 0, 0);
        check.due("w 1", x.narrow(1, false), 3);
        for (int w : new int[] {0, -1, 61, Integer.MIN_VALUE, Integer.MAX_VALUE}) {
            check.due("w " + w, x.narrow(w, true), Check.BAD);
        }
        dueNarrowed(x, "bad ones change nothing", 1, 2, 1);
        check.due("w 60", x.narrow(60, true), 3);
        dueNarrowed(x, "w 60", 0, 2, 0);
        for (int what : new int[] {-1, 3, Integer.MIN_VALUE, Integer.MAX_VALUE}) {
            check.due("narrowed(" + what + ")", x.narrowed(what), Check.BAD);
        }
    }

    /** The cheap choice of step 0 uses so much that step 1 is left its dear one. */
    private static StateTables greedy() {
        StateTables x = new StateTables();
        x.step();
        x.step();
        x.choice(0, 0, 5, 0);
        x.choice(0, 1, 4, 0);
        x.choice(0, 2, 0, 0);
        x.choice(1, 10, 5, 0);
        x.choice(1, 50, 0, 0);
        x.resource(0, 0, 9);
        return x;
    }

    private static void looseAndNot() {
        StateTables x = greedy();
        check.due("wide enough", x.narrow(5, false), 11);
        dueNarrowed(x, "wide enough", 0, 5, 0);
        check.due("strict 1", x.narrow(1, false), 50);
        dueNarrowed(x, "strict 1", 2, 3, 1);
        check.due("loose 1", x.narrow(1, true), 10);
        dueNarrowed(x, "loose 1", 5, 3, 2);
        check.due("loose 2", x.narrow(2, true), 11);
        dueNarrowed(x, "loose 2", 4, 3, 2);
        check.due("strict 2", x.narrow(2, false), 11);
        dueNarrowed(x, "strict 2", 2, 3, 2);
        x.run();
        check.due("between the bounds", x.best(), 11);
    }

    /** A choice is closed to a united node only if it is barred behind all of its last choices. */
    private static void looseBars() {
        StateTables x = new StateTables();
        x.step();
        x.step();
        x.choice(0, 1, 0, 0);
        x.choice(0, 2, 0, 0);
        x.choice(1, 10, 0, 0);
        x.choice(1, 20, 0, 0);
        x.bar(0, 0, 0, true);
        check.due("exact", x.narrow(60, true), 12);
        check.due("loose: barred behind one of two", x.narrow(1, true), 11);
        check.due("strict: barred behind the one left", x.narrow(1, false), 21);
        x.bar(0, 1, 0, true);
        check.due("loose: barred behind both", x.narrow(1, true), 21);
        dueNarrowed(x, "loose: barred behind both", 2, 2, 1);
    }

    private static void leastByHigh() {
        StateTables x = new StateTables();
        x.step();
        x.choice(0, 1, 3, 0);
        x.choice(0, 5, 0, 7);
        x.resource(0, 3, 40);
        x.resource(1, 7, 40);
        check.due("no node has both", x.narrow(2, true), Check.NONE);
        check.due("united, the highs have both", x.narrow(1, true), 1);
        check.due("left out, none has", x.narrow(1, false), Check.NONE);
        x.resource(0, 0, 40);
        check.due("the second one has", x.narrow(2, true), 5);
        check.due("the second one is left out", x.narrow(1, false), Check.NONE);
    }

    /** A low above the most closes a choice; a high above it does not. */
    private static void highStopsAtMost() {
        StateTables x = new StateTables();
        x.step();
        x.step();
        x.choice(0, 0, 0, 0);
        x.choice(0, 1, 3, 0);
        x.choice(1, 0, 2, 0);
        x.resource(0, 0, 4);
        check.due("above the most", x.narrow(2, true), 0);
        dueNarrowed(x, "above the most", 0, 2, 0);
        check.due("united: the low stays below", x.narrow(1, true), 0);
        x.resource(0, 4, 4);
        check.due("exact: none", x.narrow(2, true), Check.NONE);
        check.due("united: the high is the most", x.narrow(1, true), 0);
    }

    /** Of like costs the lesser lows stay; here only they leave room for step 1. */
    private static void tiesByStates() {
        StateTables x = new StateTables();
        x.step();
        x.step();
        x.choice(0, 0, 2, 0);
        x.choice(0, 0, 1, 9);
        x.choice(0, 0, 1, 3);
        x.choice(1, 1, 3, 2);
        x.choice(1, 100, 0, 0);
        x.resource(0, 0, 4);
        x.resource(1, 0, 5);
        check.due("the least lows stay", x.narrow(1, false), 1);
        x.resource(1, 0, 4);
        check.due("no room behind them", x.narrow(1, false), 100);
    }

    private static void runIsNotNeeded() {
        StateTables x = greedy();
        check.due("no run yet", x.narrow(9, true), 11);
        x.cost(1, 0, 20);
        check.due("narrow looks at what is told now", x.narrow(9, true), 21);
        x.run();
        x.narrow(3, false);
        check.due("narrow keeps the run", x.best(), 21);
        x.step();
        dueNarrowed(x, "telling keeps what was narrowed", 2, 5, 1);
    }
}
