/** The boundary cases of promises 7 to 11, sentence by sentence. */
public final class PlansBoundsTest {
    public static void main(String[] args) {
        SentenceRunner.run(PlansBoundsTest.class);
    }

    /** No PLAN: the only ROW of both STEPS is one short of LEAST. */
    private static StateTables withoutPlan() {
        StateTables x = Made.steps(2);
        x.choice(0, 1, 2, 0);
        x.choice(1, 1, 2, 0);
        x.resource(0, 5, 40);
        return x;
    }

    private static void dueTurn(Check check, String when, StateTables x) {
        check.due(when + ": best()", x.best(), Check.TURN);
        check.due(when + ": many()", x.many(), Check.TURN);
        check.due(when + ": plans()", x.plans(), Check.TURN);
        check.due(when + ": plan(0, 0)", x.plan(0, 0), Check.TURN);
        check.due(when + ": plan(0, -1)", x.plan(0, -1), Check.TURN);
    }

    private static void duePlan(Check check, StateTables x, int k, int cost, int... choices) {
        check.due("plan(" + k + ", -1)", x.plan(k, -1), cost);
        for (int s = 0; s < choices.length; s++) {
            check.due("plan(" + k + ", " + s + ")", x.plan(k, s), choices[s]);
        }
    }

    // ---- promise 7

    @Sentence(promise = 7, says = "All LAYERS are laid: how many NODES they have.")
    static void runWithoutSteps(Check check) {
        StateTables x = new StateTables();
        check.due("run()", x.run(), 1);
        check.due("run() again", x.run(), 1);
        x.resource(0, 1, 1);
        check.due("run() without a PLAN", x.run(), 1);
    }

    @Sentence(promise = 7, says = "All LAYERS are laid: how many NODES they have.")
    static void runWithAStepWithoutChoices(Check check) {
        check.due("the first one", Made.sized(0, 6, 6).run(), 1);
        check.due("one between", Made.sized(6, 0, 6).run(), 1 + 6);
        check.due("the last one", Made.sized(6, 6, 0).run(), 1 + 6 + 6);
        check.due("all twelve", Made.steps(12).run(), 1);
    }

    @Sentence(promise = 7, says = "All LAYERS are laid: how many NODES they have.")
    static void runWithAllStepsAndChoices(Check check) {
        StateTables x = Made.full();
        check.due("run()", x.run(), 1 + 12 * 6);
        check.due("layer(12)", x.layer(12), 6);
    }

    @Sentence(promise = 7, says = "All LAYERS are laid: how many NODES they have.")
    static void nodesFromWhichNothingGoesAreLaid(Check check) {
        StateTables x = withoutPlan();
        check.due("run() below LEAST", x.run(), 3);
        StateTables y = Made.sized(2, 1);
        y.bar(0, 0, 0, true);
        check.due("run() with a BARRED one", y.run(), 1 + 2 + 1);
        y.bar(0, 1, 0, true);
        check.due("run() with both BARRED", y.run(), 1 + 2);
    }

    /** (0, 1) by CHOICE 0 and five more in LAYER 1, 18 NODES in LAYER 2. */
    private static StateTables spread() {
        StateTables x = Made.steps(2);
        for (int c = 0; c < 6; c++) {
            x.choice(0, c, c, c == 0 ? 1 : 0);
        }
        x.choice(1, 0, 0, 5);
        x.choice(1, 0, 0, 0);
        x.choice(1, 0, 0, 0);
        return x;
    }

    @Sentence(promise = 7, says = "All LAYERS are laid: how many NODES they have.")
    static void runAgainLaysTheSame(Check check) {
        StateTables once = spread();
        StateTables thrice = spread();
        check.due("run()", once.run(), 25);
        check.dueEach("run() again", 25, n -> thrice.run(), 1, 2, 3);
        for (int d = 0; d <= 2; d++) {
            for (int i = 0; i < 18 && once.layer(d) > i; i++) {
                String at = "(" + d + ", " + i + ")";
                check.due("TO " + at, thrice.ways(d, i, true), once.ways(d, i, true));
                check.due("FROM " + at, thrice.ways(d, i, false), once.ways(d, i, false));
                check.due("the least COST TO " + at, thrice.node(d, i, 3), once.node(d, i, 3));
                check.due("the least COST FROM " + at, thrice.node(d, i, 4), once.node(d, i, 4));
            }
        }
        check.due("TO (0, 1)", thrice.ways(1, 0, true), 1);
    }

    @Sentence(promise = 7, says = "FULL: one would have more than 400 (what was laid before is there no more).")
    static void fourHundredNodesAreLaid(Check check) {
        StateTables x = Made.wide();
        check.due("run()", x.run(), 506);
        check.due("layer(4)", x.layer(4), 400);
        check.due("count(3)", x.count(3), 1);
        check.due("the last NODE's CHOICE", x.node(4, 399, 2), 4);
        check.due("what it has used of the first", x.node(4, 399, 0), 19);
        check.due("what it has used of the second", x.node(4, 399, 1), 3);
        check.due("many()", x.many(), 400);
    }

    @Sentence(promise = 7, says = "FULL: one would have more than 400 (what was laid before is there no more).")
    static void fourHundredAndOneAreTooMany(Check check) {
        StateTables x = Made.tooWide();
        check.due("run()", x.run(), Check.FULL);
        check.due("run() again", x.run(), Check.FULL);
        check.due("count(3)", x.count(3), 0);
    }

    @Sentence(promise = 7, says = "FULL: one would have more than 400 (what was laid before is there no more).")
    static void fourHundredInNineLayers(Check check) {
        StateTables x = Made.wide();
        for (int s = 4; s < 12; s++) {
            x.step();
            for (int c = 0; c < 5; c++) {
                x.choice(s, 0, 0, 0);
            }
        }
        check.due("run()", x.run(), 106 + 9 * 400);
        check.due("layer(12)", x.layer(12), 400);
        check.due("many()", x.many(), 400L * 390625);
        x.choice(11, 0, 20, 20);
        check.due("run() with 401 in the last one", x.run(), Check.FULL);
        x.resource(0, 0, 19);
        check.due("run() without that one", x.run(), 106 + 9 * 400);
    }

    @Sentence(promise = 7, says = "FULL: one would have more than 400 (what was laid before is there no more).")
    static void tooManyInALayerBetween(Check check) {
        StateTables x = Made.tooWide();
        x.step();
        check.due("with no CHOICE behind it", x.run(), Check.FULL);
        x.choice(4, 0, 0, 0);
        check.due("with one CHOICE behind it", x.run(), Check.FULL);
        StateTables y = Made.wide();
        y.step();
        y.choice(4, 0, 0, 0);
        check.due("with one CHOICE behind 400", y.run(), 506 + 80);
    }

    @Sentence(promise = 7, says = "FULL: one would have more than 400 (what was laid before is there no more).")
    static void fullTakesAwayWhatWasLaid(Check check) {
        StateTables x = Made.wide();
        x.run();
        check.due("layer(1) before", x.layer(1), 5);
        x.choice(3, 0, 20, 20);
        check.due("run()", x.run(), Check.FULL);
        dueTurn(check, "FULL", x);
        check.due("layer(0)", x.layer(0), Check.TURN);
        check.due("layer(1)", x.layer(1), Check.TURN);
        check.due("node(0, 0, 0)", x.node(0, 0, 0), Check.TURN);
        check.due("ways(0, 0, true)", x.ways(0, 0, true), Check.TURN);
        check.due("dominated(0, 0)", x.dominated(0, 0), Check.TURN);
        check.due("leads(0, 0, 0)", x.leads(0, 0, 0), Check.TURN);
        check.due("count(3)", x.count(3), 0);
        x.step();
        dueTurn(check, "told something behind that", x);
    }

    @Sentence(promise = 7, says = "FULL: one would have more than 400 (what was laid before is there no more).")
    static void fullLeavesWhatWasTold(Check check) {
        StateTables x = Made.tooWide();
        x.bar(0, 4, 3, true);
        x.bar(0, 4, 3, false);
        x.narrow(1, true);
        int widest = x.narrowed(1);
        x.run();
        check.due("count(0)", x.count(0), 4);
        check.due("count(1)", x.count(1), 19);
        check.due("count(2)", x.count(2), 0);
        check.due("narrowed(1)", x.narrowed(1), widest);
        check.due("cost(3, 4, 4)", x.cost(3, 4, 4), 4);
        check.due("resource(1, 0, 19)", x.resource(1, 0, 19), 20);
        check.due("run() with room again", x.run(), 506);
        check.due("best()", x.best(), 0);
        check.due("many()", x.many(), 400);
    }

    @Sentence(promise = 7, says = "FULL: one would have more than 400 (what was laid before is there no more).")
    static void manyRowsToFewNodesAreNotFull(Check check) {
        StateTables x = Made.full();
        check.due("run()", x.run(), 73);
        check.due("many()", x.many(), 2176782336L);
    }

    // ---- promise 8

    @Sentence(promise = 8, says = "The least COST of a PLAN.")
    static void leastAndGreatestBest(Check check) {
        StateTables x = Made.full();
        for (int s = 0; s < 12; s++) {
            x.cost(s, 5, -1000);
        }
        x.run();
        check.due("twelve of -1000", x.best(), -12000);
        for (int s = 0; s < 12; s++) {
            for (int c = 0; c < 6; c++) {
                x.cost(s, c, 1000);
            }
        }
        x.run();
        check.due("twelve of 1000", x.best(), 12000);
    }

    @Sentence(promise = 8, says = "The least COST of a PLAN.")
    static void bestWithoutSteps(Check check) {
        StateTables x = new StateTables();
        x.run();
        check.due("best()", x.best(), 0);
    }

    @Sentence(promise = 8, says = "The least COST of a PLAN.")
    static void cheaperRowsThatAreNoPlans(Check check) {
        StateTables x = Made.steps(1);
        x.choice(0, -9, 4, 0);
        x.choice(0, 3, 5, 0);
        x.choice(0, -8, 11, 0);
        x.resource(0, 5, 10);
        x.run();
        check.due("best()", x.best(), 3);
        x.resource(0, 5, 11);
        x.run();
        check.due("best() with MOST one more", x.best(), -8);
        x.resource(0, 4, 10);
        x.run();
        check.due("best() with LEAST one less", x.best(), -9);
    }

    @Sentence(promise = 8, says = "The least COST of a PLAN.")
    static void cheaperRowsBehindAndAheadOfThePlan(Check check) {
        for (int plan = 0; plan <= 2; plan++) {
            StateTables x = Made.steps(2);
            for (int c = 0; c <= 2; c++) {
                x.choice(0, 0, c == plan ? 5 : 4, 0);
                x.choice(1, c == plan ? 9 : -9, 0, c == plan ? 5 : 4);
            }
            x.resource(0, 5, 40);
            x.resource(1, 5, 40);
            x.run();
            check.due("best()", x.best(), 9);
            check.due("many()", x.many(), 1);
            duePlan(check, x, 0, 9, plan, plan);
        }
    }

    @Sentence(promise = 8, says = "The least COST of a PLAN.")
    static void bestBehindARunWithMoreNodes(Check check) {
        StateTables x = Made.steps(2);
        x.choice(0, 1, 0, 0);
        x.choice(0, 1, 1, 0);
        x.choice(0, 1, 2, 0);
        x.choice(1, 100, 0, 0);
        x.run();
        check.due("best()", x.best(), 101);
        x.resource(0, 0, 0);
        check.due("run() with fewer NODES", x.run(), 3);
        check.due("best() then", x.best(), 101);
        check.due("node(2, 0, 4)", x.node(2, 0, 4), 0);
    }

    @Sentence(promise = 8, says = "TURN.")
    static void bestIsNotDueYet(Check check) {
        StateTables x = new StateTables();
        check.due("before run()", x.best(), Check.TURN);
        x.run();
        check.due("behind run()", x.best(), 0);
        x.step();
        check.due("behind step()", x.best(), Check.TURN);
        check.due("behind run() that was FULL", ranFull().best(), Check.TURN);
    }

    private static StateTables ranFull() {
        StateTables x = Made.tooWide();
        x.run();
        return x;
    }

    @Sentence(promise = 8, says = "NONE: there is no PLAN.")
    static void bestOfNoPlan(Check check) {
        StateTables below = withoutPlan();
        below.run();
        check.due("below LEAST", below.best(), Check.NONE);
        StateTables none = Made.sized(1, 0, 1);
        none.run();
        check.due("a STEP without CHOICES", none.best(), Check.NONE);
        StateTables barred = Made.sized(1, 1);
        barred.bar(0, 0, 0, true);
        barred.run();
        check.due("all BARRED", barred.best(), Check.NONE);
        StateTables above = Made.steps(1);
        above.choice(0, 0, 0, 1);
        above.resource(1, 0, 0);
        above.run();
        check.due("above MOST", above.best(), Check.NONE);
        StateTables empty = new StateTables();
        empty.resource(1, 1, 40);
        empty.run();
        check.due("no STEP, and a LEAST above 0", empty.best(), Check.NONE);
    }

    // ---- promise 9

    @Sentence(promise = 9, says = "How many PLANS.")
    static void manyFromNoneToTheMost(Check check) {
        StateTables none = withoutPlan();
        none.run();
        check.due("no PLAN", none.many(), 0);
        StateTables behind = Made.sized(6, 0);
        behind.run();
        check.due("a STEP without CHOICES", behind.many(), 0);
        StateTables empty = new StateTables();
        empty.run();
        check.due("no STEP", empty.many(), 1);
        StateTables below = Made.sized(5, 6, 6, 6, 6, 6, 6, 6, 6, 6, 6, 6);
        below.run();
        check.due("as many as an int holds", below.many(), 1813985280L);
        below.choice(0, 0, 0, 0);
        below.run();
        check.due("more than an int holds", below.many(), 2176782336L);
    }

    @Sentence(promise = 9, says = "TURN.")
    static void manyIsNotDueYet(Check check) {
        StateTables x = new StateTables();
        check.due("before run()", x.many(), Check.TURN);
        x.run();
        check.due("behind run()", x.many(), 1);
        x.resource(0, 0, 40);
        check.due("behind resource()", x.many(), Check.TURN);
        check.due("behind run() that was FULL", ranFull().many(), Check.TURN);
    }

    // ---- promise 10

    @Sentence(promise = 10, says = "How many PLANS are told: all of them, or the first 20.")
    static void plansUpToTwenty(Check check) {
        StateTables none = withoutPlan();
        none.run();
        check.due("no PLAN", none.plans(), 0);
        StateTables empty = new StateTables();
        empty.run();
        check.due("no STEP", empty.plans(), 1);
        empty.resource(0, 1, 40);
        empty.run();
        check.due("no STEP, and a LEAST above 0", empty.plans(), 0);
        StateTables x = Made.sized(5, 4);
        x.run();
        check.due("20 PLANS", x.plans(), 20);
        x.bar(0, 4, 3, true);
        x.run();
        check.due("many() with a pair BARRED", x.many(), 19);
        check.due("19 PLANS", x.plans(), 19);
    }

    @Sentence(promise = 10, says = "How many PLANS are told: all of them, or the first 20.")
    static void plansAboveTwenty(Check check) {
        StateTables x = Made.sized(6, 4);
        x.bar(0, 0, 0, true);
        x.bar(0, 1, 1, true);
        x.bar(0, 2, 2, true);
        x.run();
        check.due("many()", x.many(), 21);
        check.due("plans()", x.plans(), 20);
        StateTables full = Made.full();
        full.run();
        check.due("plans() of the most", full.plans(), 20);
    }

    @Sentence(promise = 10, says = "TURN.")
    static void plansAreNotDueYet(Check check) {
        StateTables x = Made.sized(1, 1);
        check.due("before run()", x.plans(), Check.TURN);
        x.run();
        check.due("behind run()", x.plans(), 1);
        x.bar(0, 0, 0, true);
        check.due("behind bar()", x.plans(), Check.TURN);
        check.due("behind run() that was FULL", ranFull().plans(), Check.TURN);
    }

    // ---- promise 11

    @Sentence(promise = 11,
        says = "The CHOICE of PLAN k (0 the first in ORDER) for a STEP; step = - 1: its COST.")
    static void firstAndLastPlanTold(Check check) {
        StateTables x = Made.sized(6, 6);
        x.cost(0, 5, -7);
        x.cost(1, 5, 2);
        x.run();
        duePlan(check, x, 0, -7, 5, 0);
        duePlan(check, x, 4, -7, 5, 4);
        duePlan(check, x, 5, -5, 5, 5);
        duePlan(check, x, 6, 0, 0, 0);
        duePlan(check, x, 19, 0, 2, 3);
    }

    @Sentence(promise = 11,
        says = "The CHOICE of PLAN k (0 the first in ORDER) for a STEP; step = - 1: its COST.")
    static void firstAndLastStepOfAPlan(Check check) {
        StateTables x = Made.full();
        x.cost(0, 5, -1000);
        x.cost(11, 4, -1000);
        x.run();
        check.due("plan(0, 0)", x.plan(0, 0), 5);
        check.due("plan(0, 1)", x.plan(0, 1), 0);
        check.due("plan(0, 10)", x.plan(0, 10), 0);
        check.due("plan(0, 11)", x.plan(0, 11), 4);
        check.due("plan(0, -1)", x.plan(0, -1), -2000);
        check.due("plan(19, 9)", x.plan(19, 9), 3);
        check.due("plan(19, 10)", x.plan(19, 10), 1);
        check.due("plan(19, 11)", x.plan(19, 11), 4);
    }

    @Sentence(promise = 11,
        says = "The CHOICE of PLAN k (0 the first in ORDER) for a STEP; step = - 1: its COST.")
    static void costsOfTheDearestAndTheCheapestPlan(Check check) {
        StateTables x = Made.sized(1, 1, 1, 1, 1, 1, 1, 1, 1, 1, 1, 1);
        for (int s = 0; s < 12; s++) {
            x.cost(s, 0, 1000);
        }
        x.run();
        check.due("twelve of 1000", x.plan(0, -1), 12000);
        for (int s = 0; s < 12; s++) {
            x.cost(s, 0, -1000);
        }
        x.run();
        check.due("twelve of -1000", x.plan(0, -1), -12000);
    }

    @Sentence(promise = 11, says = "TURN.")
    static void planIsNotDueYet(Check check) {
        StateTables x = Made.example();
        check.due("before run()", x.plan(0, 0), Check.TURN);
        x.run();
        check.due("behind run()", x.plan(0, 0), 2);
        x.cost(0, 0, 0);
        check.due("behind cost()", x.plan(0, 0), Check.TURN);
        check.due("its COST behind cost()", x.plan(0, -1), Check.TURN);
        x.run();
        x.choice(0, 0, 0, 0);
        check.due("behind choice()", x.plan(0, 0), Check.TURN);
        check.due("behind run() that was FULL", ranFull().plan(0, 0), Check.TURN);
    }

    @Sentence(promise = 11, says = "BAD: not told, no STEP.")
    static void planThatIsNotTold(Check check) {
        StateTables x = Made.sized(3, 1);
        x.run();
        check.dueEach("plan(k, 0)", Check.BAD, k -> x.plan(k, 0), -1, 3, 19, 20, Check.LOWEST, Check.HIGHEST);
        check.dueEach("plan(k, -1)", Check.BAD, k -> x.plan(k, -1), -1, 3, 19, 20, Check.LOWEST, Check.HIGHEST);
        check.due("plan(2, 0)", x.plan(2, 0), 2);
    }

    @Sentence(promise = 11, says = "BAD: not told, no STEP.")
    static void planBehindTheFirstTwenty(Check check) {
        StateTables x = Made.sized(6, 6);
        x.run();
        check.due("plan(19, 0)", x.plan(19, 0), 3);
        check.due("plan(19, 1)", x.plan(19, 1), 1);
        check.due("plan(20, 0)", x.plan(20, 0), Check.BAD);
        check.due("plan(20, -1)", x.plan(20, -1), Check.BAD);
        check.due("plan(35, -1)", x.plan(35, -1), Check.BAD);
    }

    @Sentence(promise = 11, says = "BAD: not told, no STEP.")
    static void planWhereThereIsNone(Check check) {
        StateTables x = withoutPlan();
        x.run();
        check.due("plan(0, 0)", x.plan(0, 0), Check.BAD);
        check.due("plan(0, -1)", x.plan(0, -1), Check.BAD);
    }

    @Sentence(promise = 11, says = "BAD: not told, no STEP.")
    static void planWhereThereWasOneBefore(Check check) {
        StateTables x = Made.sized(3, 1);
        x.run();
        x.bar(0, 0, 0, true);
        x.bar(0, 2, 0, true);
        x.run();
        check.due("plan(0, 0)", x.plan(0, 0), 1);
        check.due("plan(1, 0)", x.plan(1, 0), Check.BAD);
        check.due("plan(2, -1)", x.plan(2, -1), Check.BAD);
        x.bar(0, 1, 0, true);
        x.run();
        check.due("plans() with all BARRED", x.plans(), 0);
        check.due("plan(0, 0) with all BARRED", x.plan(0, 0), Check.BAD);
        check.due("plan(0, -1) with all BARRED", x.plan(0, -1), Check.BAD);
    }

    @Sentence(promise = 11, says = "BAD: not told, no STEP.")
    static void planForNoStep(Check check) {
        StateTables x = Made.sized(3, 1);
        x.run();
        check.dueEach("plan(0, step)", Check.BAD, s -> x.plan(0, s), -2, 2, 11, 12, Check.LOWEST, Check.HIGHEST);
        check.due("plan(0, 1)", x.plan(0, 1), 0);
        StateTables full = Made.full();
        full.run();
        check.dueEach("plan(0, step) of twelve", Check.BAD, s -> full.plan(0, s), -2, 12, 13);
        check.due("plan(0, 11) of twelve", full.plan(0, 11), 0);
    }

    @Sentence(promise = 11, says = "BAD: not told, no STEP.")
    static void planWithoutSteps(Check check) {
        StateTables x = new StateTables();
        x.run();
        check.due("plan(0, -1)", x.plan(0, -1), 0);
        check.due("plan(0, 0)", x.plan(0, 0), Check.BAD);
        check.due("plan(1, -1)", x.plan(1, -1), Check.BAD);
        x.resource(1, 1, 1);
        x.run();
        check.due("plan(0, -1) with a LEAST above 0", x.plan(0, -1), Check.BAD);
    }
}
