/** Promises 1 to 6 and 19: a new object, and what is told. */
public final class ToldTest {
    private static final int LOWEST = Integer.MIN_VALUE;
    private static final int HIGHEST = Integer.MAX_VALUE;
    private static final Check check = new Check();

    public static void main(String[] args) {
        constants();
        newObject();
        step();
        choice();
        choiceFull();
        cost();
        resource();
        bar();
        count();
        toldEndsTheRun();
        refusedKeepsTheRun();
        check.end();
    }

    private static void constants() {
        check.due("NONE", StateTables.NONE, -1000000);
        check.due("BAD", StateTables.BAD, -2000000);
        check.due("FULL", StateTables.FULL, -3000000);
        check.due("TURN", StateTables.TURN, -4000000);
    }

    private static void newObject() {
        StateTables x = new StateTables();
        for (int what = 0; what <= 3; what++) {
            check.due("new: count(" + what + ")", x.count(what), 0);
        }
        for (int what = 0; what <= 2; what++) {
            check.due("new: narrowed(" + what + ")", x.narrowed(what), 0);
        }
        check.due("new: resource(0, 0, 40)", x.resource(0, 0, 40), 40);
        check.due("new: resource(1, 0, 40)", x.resource(1, 0, 40), 40);
        check.due("new: choice of no step", x.choice(0, 0, 0, 0), Check.BAD);
        check.due("new: best", x.best(), Check.TURN);
        StateTables other = new StateTables();
        other.step();
        check.due("new: objects share nothing", x.count(0), 0);
    }

    private static void step() {
        StateTables x = new StateTables();
        for (int i = 0; i < 12; i++) {
            check.due("step " + i, x.step(), i);
        }
        check.due("step 12", x.step(), Check.FULL);
        check.due("step 12 again", x.step(), Check.FULL);
        check.due("step: count(0)", x.count(0), 12);
        check.due("step: has no choices", x.count(1), 0);
        check.due("step: no choice to change", x.cost(3, 0, 1), Check.BAD);
    }

    private static void choice() {
        StateTables x = new StateTables();
        x.step();
        x.step();
        check.due("choice least", x.choice(0, -1000, 0, 0), 0);
        check.due("choice most", x.choice(0, 1000, 20, 20), 1);
        check.due("choice of another step", x.choice(1, 0, 3, 4), 0);
        int[][] bad = {
            {-1, 0, 0, 0}, {2, 0, 0, 0}, {LOWEST, 0, 0, 0}, {HIGHEST, 0, 0, 0},
            {0, -1001, 0, 0}, {0, 1001, 0, 0}, {0, LOWEST, 0, 0}, {0, HIGHEST, 0, 0},
            {0, 0, -1, 0}, {0, 0, 21, 0}, {0, 0, LOWEST, 0}, {0, 0, HIGHEST, 0},
            {0, 0, 0, -1}, {0, 0, 0, 21}, {0, 0, 0, LOWEST}, {0, 0, 0, HIGHEST}};
        for (int[] b : bad) {
            check.due("choice bad", x.choice(b[0], b[1], b[2], b[3]), Check.BAD);
        }
        check.due("choice: bad ones change nothing", x.count(1), 3);
        x.run();
        check.due("choice: use of the first", x.node(1, 1, 0), 20);
        check.due("choice: use of the second", x.node(1, 1, 1), 20);
        check.due("choice: its cost", x.node(1, 1, 3), 1000);
    }

    private static void choiceFull() {
        StateTables x = new StateTables();
        x.step();
        for (int i = 0; i < 6; i++) {
            check.due("choice " + i, x.choice(0, i, i, i), i);
        }
        check.due("choice 6", x.choice(0, 6, 6, 6), Check.FULL);
        check.due("choice: BAD ahead of FULL", x.choice(0, 1001, 6, 6), Check.BAD);
        check.due("choice: FULL changes nothing", x.count(1), 6);
    }

    private static void cost() {
        StateTables x = new StateTables();
        x.step();
        x.choice(0, 7, 1, 1);
        x.choice(0, 9, 2, 2);
        check.due("cost", x.cost(0, 0, -1000), 7);
        check.due("cost again", x.cost(0, 0, 1000), -1000);
        check.due("cost of the other choice", x.cost(0, 1, 3), 9);
        int[][] bad = {
            {-1, 0, 0}, {1, 0, 0}, {LOWEST, 0, 0}, {HIGHEST, 0, 0},
            {0, -1, 0}, {0, 2, 0}, {0, LOWEST, 0}, {0, HIGHEST, 0},
            {0, 0, -1001}, {0, 0, 1001}, {0, 0, LOWEST}, {0, 0, HIGHEST}};
        for (int[] b : bad) {
            check.due("cost bad", x.cost(b[0], b[1], b[2]), Check.BAD);
        }
        check.due("cost: bad ones change nothing", x.cost(0, 0, 5), 1000);
        x.run();
        check.due("cost: best", x.best(), 3);
    }

    private static void resource() {
        StateTables x = new StateTables();
        check.due("resource 0", x.resource(0, 3, 17), 40);
        check.due("resource 0 again", x.resource(0, 40, 40), 317);
        check.due("resource 0, 0", x.resource(0, 0, 0), 4040);
        check.due("resource 1", x.resource(1, 12, 12), 40);
        check.due("resource 1 again", x.resource(1, 0, 40), 1212);
        int[][] bad = {
            {-1, 0, 40}, {2, 0, 40}, {LOWEST, 0, 40}, {HIGHEST, 0, 40},
            {0, -1, 40}, {0, LOWEST, 40}, {0, 0, 41}, {0, 0, HIGHEST}, {0, 41, 41},
            {0, 6, 5}, {0, 0, -1}, {0, -5, -3}, {0, HIGHEST, LOWEST}};
        for (int[] b : bad) {
            check.due("resource bad", x.resource(b[0], b[1], b[2]), Check.BAD);
        }
        check.due("resource: bad ones change nothing", x.resource(0, 0, 40), 0);
    }

    private static void bar() {
        StateTables x = new StateTables();
        x.step();
        x.step();
        x.step();
        x.choice(0, 0, 0, 0);
        x.choice(0, 0, 1, 0);
        x.choice(1, 0, 0, 0);
        x.choice(1, 0, 0, 1);
        x.choice(1, 0, 0, 2);
        check.due("bar", x.bar(0, 1, 2, true), 0);
        check.due("bar on again", x.bar(0, 1, 2, true), 1);
        check.due("bar of another pair", x.bar(0, 0, 2, false), 0);
        check.due("bar: one pair", x.count(2), 1);
        check.due("bar off", x.bar(0, 1, 2, false), 1);
        check.due("bar off again", x.bar(0, 1, 2, false), 0);
        check.due("bar: no pair", x.count(2), 0);
        int[][] bad = {
            {-1, 0, 0}, {2, 0, 0}, {1, 0, 0}, {3, 0, 0}, {LOWEST, 0, 0}, {HIGHEST, 0, 0},
            {0, -1, 0}, {0, 2, 0}, {0, LOWEST, 0}, {0, HIGHEST, 0},
            {0, 0, -1}, {0, 0, 3}, {0, 0, LOWEST}, {0, 0, HIGHEST}};
        for (int[] b : bad) {
            check.due("bar bad", x.bar(b[0], b[1], b[2], true), Check.BAD);
        }
        check.due("bar: bad ones change nothing", x.count(2), 0);
    }

    private static void count() {
        StateTables x = new StateTables();
        x.step();
        x.step();
        x.choice(0, 0, 0, 0);
        x.choice(0, 0, 0, 0);
        x.choice(1, 0, 0, 0);
        x.bar(0, 0, 0, true);
        x.bar(0, 1, 0, true);
        check.due("count(0)", x.count(0), 2);
        check.due("count(1)", x.count(1), 3);
        check.due("count(2)", x.count(2), 2);
        check.due("count(3) before", x.count(3), 0);
        x.run();
        check.due("count(3)", x.count(3), 1);
        check.due("count(3) still", x.count(3), 1);
        for (int what : new int[] {-1, 4, LOWEST, HIGHEST}) {
            check.due("count(" + what + ")", x.count(what), Check.BAD);
        }
    }

    private static StateTables small() {
        StateTables x = new StateTables();
        x.step();
        x.step();
        x.choice(0, 1, 1, 0);
        x.choice(1, 2, 0, 1);
        return x;
    }

    private static void toldEndsTheRun() {
        StateTables x = small();
        for (int call = 0; call < 5; call++) {
            x.run();
            check.due("told " + call + ": holds", x.count(3), 1);
            switch (call) {
                case 0: x.cost(0, 0, 1); break;
                case 1: x.resource(1, 0, 40); break;
                case 2: x.bar(0, 0, 0, false); break;
                case 3: x.choice(0, 0, 0, 0); break;
                default: x.step(); break;
            }
            check.due("told " + call + ": holds no more", x.count(3), 0);
            allTurn(x);
        }
    }

    private static void allTurn(StateTables x) {
        check.due("turn: best", x.best(), Check.TURN);
        check.due("turn: many", x.many(), Check.TURN);
        check.due("turn: plans", x.plans(), Check.TURN);
        check.due("turn: plan", x.plan(0, 0), Check.TURN);
        check.due("turn: plan ahead of BAD", x.plan(-1, -9), Check.TURN);
        check.due("turn: layer", x.layer(0), Check.TURN);
        check.due("turn: layer ahead of BAD", x.layer(-1), Check.TURN);
        check.due("turn: node", x.node(0, 0, 0), Check.TURN);
        check.due("turn: node ahead of BAD", x.node(-1, 0, 9), Check.TURN);
        check.due("turn: ways", x.ways(0, 0, true), Check.TURN);
        check.due("turn: ways ahead of BAD", x.ways(0, -1, true), Check.TURN);
        check.due("turn: dominated", x.dominated(0, 0), Check.TURN);
        check.due("turn: dominated ahead of BAD", x.dominated(99, 0), Check.TURN);
        check.due("turn: leads", x.leads(0, 0, 0), Check.TURN);
        check.due("turn: leads ahead of BAD", x.leads(0, 0, -1), Check.TURN);
    }

    private static void refusedKeepsTheRun() {
        StateTables x = small();
        for (int i = 0; i < 10; i++) {
            x.step();
        }
        for (int i = 0; i < 5; i++) {
            x.choice(0, 1, 1, 0);
        }
        x.run();
        x.step();
        x.choice(0, 0, 0, 0);
        x.choice(12, 0, 0, 0);
        x.cost(0, 6, 0);
        x.resource(0, 5, 4);
        x.bar(11, 0, 0, true);
        x.narrow(0, true);
        x.narrow(3, false);
        check.due("refused: holds", x.count(3), 1);
        check.due("refused: layer(1)", x.layer(1), 6);
    }
}
