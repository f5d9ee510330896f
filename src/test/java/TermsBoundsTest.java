/** The boundary cases of the chapters 'What it is' and 'Terms', as far as STEPS, PLANS and LAYERS go. */
public final class TermsBoundsTest {
    public static void main(String[] args) {
        SentenceRunner.run(TermsBoundsTest.class);
    }

    private static StateTables ran(StateTables x) {
        x.run();
        return x;
    }

    // ---- what it is

    @Sentence(promise = 0, says = "STEPS 0, 1, .. , 12 at most, one behind the other; "
        + "each has CHOICES 0, 1, .. , 6 at most, with a COST and a USE of each of two RESOURCES.")
    static void twelveStepsOfSixChoices(Check check) {
        StateTables x = Made.full();
        check.due("a STEP more", x.step(), Check.FULL);
        check.due("a CHOICE more", x.choice(11, 0, 0, 0), Check.FULL);
        check.due("count(0)", x.count(0), 12);
        check.due("count(1)", x.count(1), 72);
        check.due("the last CHOICE of the last STEP", x.cost(11, 5, 1), 0);
    }

    @Sentence(promise = 0, says = "An object is used for at most 512 calls after it has been made")
    static void theLastOfFiveHundredAndTwelveCalls(Check check) {
        StateTables x = Made.full();
        for (int call = 85; call <= 509; call++) {
            check.due("call " + call, x.run(), 73);
        }
        check.due("call 510", x.cost(11, 5, -1), 0);
        check.due("call 511", x.run(), 73);
        check.due("call 512", x.best(), -1);
        StateTables y = Made.wide();
        for (int call = 25; call <= 512; call++) {
            check.due("call " + call, call % 2 == 0 ? y.narrow(60, true) : y.resource(0, 0, 20), call % 2 == 0 ? 0 : 20);
        }
    }

    // ---- RESOURCES, ROWS, PLANS

    @Sentence(promise = 0, says = "A RESOURCE has a LEAST and a MOST (0 and 40 at first).")
    static void leastAndMostAtFirst(Check check) {
        StateTables x = new StateTables();
        check.due("resource(0, 0, 40)", x.resource(0, 0, 40), 40);
        check.due("resource(1, 0, 40)", x.resource(1, 0, 40), 40);
        StateTables y = Made.steps(3);
        y.choice(0, 0, 20, 20);
        y.choice(1, 0, 20, 20);
        y.choice(2, 0, 0, 0);
        y.choice(2, 0, 1, 0);
        y.choice(2, 0, 0, 1);
        y.run();
        check.due("40 of each is not above MOST", y.leads(2, 0, 0), 0);
        check.due("41 of the first is", y.leads(2, 0, 1), Check.NONE);
        check.due("41 of the second is", y.leads(2, 0, 2), Check.NONE);
        check.due("0 of each is not below LEAST", ran(Made.sized(1)).many(), 1);
    }

    @Sentence(promise = 0, says = "A CHOICE of a STEP may be BARRED behind one of the STEP before.")
    static void barredBehindTheStepBeforeAlone(Check check) {
        StateTables x = Made.sized(2, 2, 2);
        x.bar(0, 0, 0, true);
        x.bar(1, 1, 1, true);
        x.run();
        check.due("many()", x.many(), 4);
        int[][] plans = {{0, 1, 0}, {1, 0, 0}, {1, 0, 1}, {1, 1, 0}};
        for (int k = 0; k < 4; k++) {
            for (int s = 0; s < 3; s++) {
                check.due("plan(" + k + ", " + s + ")", x.plan(k, s), plans[k][s]);
            }
        }
    }

    @Sentence(promise = 0, says = "A ROW of d STEPS (0 .. all): a CHOICE for each of the first d STEPS, "
        + "none BARRED behind the one before it, of each RESOURCE the USES together not above MOST.")
    static void usesTogetherJustAtMost(Check check) {
        for (int k = 0; k <= 1; k++) {
            StateTables x = Made.steps(2);
            x.choice(0, 0, k == 0 ? 7 : 0, k == 1 ? 7 : 0);
            x.choice(1, 0, k == 0 ? 5 : 0, k == 1 ? 5 : 0);
            int[][] nodes = {{12, 3}, {11, 2}, {7, 2}, {6, 1}, {0, 1}};
            for (int[] n : nodes) {
                x.resource(k, 0, n[0]);
                check.due("run() with MOST " + n[0] + " of RESOURCE " + k, x.run(), n[1]);
            }
        }
    }

    @Sentence(promise = 0, says = "A ROW of d STEPS (0 .. all): a CHOICE for each of the first d STEPS, "
        + "none BARRED behind the one before it, of each RESOURCE the USES together not above MOST.")
    static void rowsOfNoStepAndOfAll(Check check) {
        StateTables x = ran(Made.sized(6, 6, 6));
        check.due("the ROW of no STEP", x.ways(0, 0, true), 1);
        long rows = 0;
        for (int i = 0; i < 6; i++) {
            rows += x.ways(3, i, true);
        }
        check.due("ROWS of all STEPS", rows, 216);
    }

    @Sentence(promise = 0, says = "A PLAN: a ROW of all STEPS, of each RESOURCE at least LEAST.")
    static void usesTogetherJustAtLeast(Check check) {
        for (int k = 0; k <= 1; k++) {
            StateTables x = Made.steps(2);
            x.choice(0, 0, k == 0 ? 7 : 0, k == 1 ? 7 : 0);
            x.choice(1, 0, k == 0 ? 5 : 0, k == 1 ? 5 : 0);
            x.resource(k, 12, 12);
            check.due("run() with LEAST 12", x.run(), 3);
            check.due("many() with LEAST 12", x.many(), 1);
            x.resource(k, 13, 13);
            check.due("run() with LEAST 13", x.run(), 3);
            check.due("many() with LEAST 13", x.many(), 0);
        }
    }

    @Sentence(promise = 0, says = "A PLAN: a ROW of all STEPS, of each RESOURCE at least LEAST.")
    static void bothResourcesAtLeast(Check check) {
        StateTables x = Made.steps(1);
        x.choice(0, 1, 5, 4);
        x.choice(0, 2, 4, 5);
        x.choice(0, 3, 5, 5);
        x.resource(0, 5, 40);
        x.resource(1, 5, 40);
        x.run();
        check.due("many()", x.many(), 1);
        check.due("plan(0, 0)", x.plan(0, 0), 2);
    }

    @Sentence(promise = 0, says = "COST: of its CHOICES together.")
    static void costsTogether(Check check) {
        StateTables x = Made.steps(3);
        x.choice(0, 1000, 0, 0);
        x.choice(1, -1000, 0, 0);
        x.choice(2, -999, 0, 0);
        x.run();
        check.due("best()", x.best(), -999);
        check.due("plan(0, -1)", x.plan(0, -1), -999);
        check.due("of no CHOICES", ran(new StateTables()).best(), 0);
    }

    @Sentence(promise = 0, says = "ORDER of PLANS: the lesser COST first; of like ones, "
        + "at the first STEP at which they differ, the lesser CHOICE.")
    static void ofLikeCostsTheFirstStepThatDiffers(Check check) {
        StateTables x = Made.steps(3);
        for (int s = 0; s < 3; s++) {
            x.choice(s, 1, 3 - s, s);
            x.choice(s, 1, s, 1);
        }
        x.run();
        for (int k = 0; k < 8; k++) {
            check.due("plan(" + k + ", 0)", x.plan(k, 0), k >> 2);
            check.due("plan(" + k + ", 1)", x.plan(k, 1), (k >> 1) & 1);
            check.due("plan(" + k + ", 2)", x.plan(k, 2), k & 1);
        }
    }

    @Sentence(promise = 0, says = "ORDER of PLANS: the lesser COST first; of like ones, "
        + "at the first STEP at which they differ, the lesser CHOICE.")
    static void aCostLessByOneComesFirst(Check check) {
        StateTables x = Made.sized(2, 2);
        x.cost(0, 1, -1);
        x.cost(1, 1, 1);
        x.run();
        int[][] plans = {{1, 0, -1}, {0, 0, 0}, {1, 1, 0}, {0, 1, 1}};
        for (int k = 0; k < 4; k++) {
            check.due("plan(" + k + ", 0)", x.plan(k, 0), plans[k][0]);
            check.due("plan(" + k + ", 1)", x.plan(k, 1), plans[k][1]);
            check.due("plan(" + k + ", -1)", x.plan(k, -1), plans[k][2]);
        }
    }

    @Sentence(promise = 0, says = "ORDER of PLANS: the lesser COST first; of like ones, "
        + "at the first STEP at which they differ, the lesser CHOICE.")
    static void oneOfMoreThanTwentyLikeOnesIsCheaper(Check check) {
        StateTables x = Made.sized(6, 6);
        x.bar(0, 5, 0, true);
        x.cost(0, 5, 1);
        x.cost(1, 5, -2);
        x.run();
        check.due("plan(0, -1)", x.plan(0, -1), -2);
        check.due("plan(4, 0)", x.plan(4, 0), 4);
        check.due("plan(5, 0)", x.plan(5, 0), 5);
        check.due("plan(5, 1)", x.plan(5, 1), 5);
        check.due("plan(5, -1)", x.plan(5, -1), -1);
        check.due("plan(6, 0)", x.plan(6, 0), 0);
        check.due("plan(19, 0)", x.plan(19, 0), 2);
        check.due("plan(19, 1)", x.plan(19, 1), 3);
    }

    // ---- LAYERS

    @Sentence(promise = 0, says = "LAYER d has a NODE for all ROWS of d STEPS that have used alike of each RESOURCE "
        + "and have the same last CHOICE (- 1 in LAYER 0).")
    static void rowsThatAreAlikeAndNot(Check check) {
        StateTables x = Made.steps(2);
        x.choice(0, 0, 1, 0);
        x.choice(0, 5, 0, 1);
        x.choice(1, 0, 0, 1);
        x.choice(1, 0, 1, 0);
        x.choice(1, 0, 1, 0);
        x.run();
        check.due("the last CHOICE in LAYER 0", x.node(0, 0, 2), -1);
        check.due("layer(2)", x.layer(2), 6);
        check.due("(1, 1) by 0", x.leads(1, 1, 0), 1);
        check.due("(1, 1) by 1, other CHOICE", x.leads(1, 0, 1), 2);
        check.due("(1, 1) by 2, other CHOICE", x.leads(1, 0, 2), 3);
        check.due("TO (1, 1) by 1", x.ways(2, 2, true), 1);
        StateTables y = Made.sized(2, 1);
        y.run();
        check.due("both ROWS are TO one NODE", y.ways(2, 0, true), 2);
        check.due("layer(2) of that", y.layer(2), 1);
    }

    @Sentence(promise = 0, says = "NODES of a LAYER are numbered from 0: by what is used of the first RESOURCE, "
        + "then of the second one, then by the last CHOICE.")
    static void nodesAreNumbered(Check check) {
        StateTables x = Made.steps(1);
        int[][] uses = {{20, 0}, {0, 20}, {1, 19}, {1, 19}, {1, 18}, {0, 20}};
        for (int[] u : uses) {
            x.choice(0, 0, u[0], u[1]);
        }
        x.run();
        int[] last = {1, 5, 4, 2, 3, 0};
        for (int i = 0; i < 6; i++) {
            check.due("node(1, " + i + ", 2)", x.node(1, i, 2), last[i]);
            check.due("node(1, " + i + ", 0)", x.node(1, i, 0), uses[last[i]][0]);
            check.due("node(1, " + i + ", 1)", x.node(1, i, 1), uses[last[i]][1]);
        }
    }

    @Sentence(promise = 0, says = "TO a NODE come its ROWS; FROM it go all rows of CHOICES for the STEPS behind it "
        + "that make a PLAN of each of those.")
    static void rowsToAndFrom(Check check) {
        StateTables x = Made.example();
        x.resource(1, 2, 40);
        x.run();
        check.due("FROM (0, 2)", x.ways(1, 0, false), 2);
        check.due("FROM (1, 0) by 0", x.ways(1, 1, false), 1);
        check.due("FROM (0, 0)", x.ways(0, 0, false), 4);
        check.due("TO (2, 0), below LEAST", x.ways(2, 3, true), 2);
        check.due("FROM (2, 0), below LEAST", x.ways(2, 3, false), 0);
        check.due("FROM (1, 2), at LEAST", x.ways(2, 1, false), 1);
        check.due("the least COST FROM (1, 0) by 0", x.node(1, 1, 4), 10);
        check.due("the least COST FROM (2, 0)", x.node(2, 3, 4), Check.NONE);
    }

    // ---- DOMINATES

    private static final String DOMINATES = "NODE a DOMINATES another one, b, of its LAYER: both have the same last "
        + "CHOICE; the least COST TO a is not above that TO b; of each RESOURCE a has used no more than b, "
        + "and just as much if its LEAST is above 0.";

    /** LAYER 2 has two NODES with the same last CHOICE, a of number 0 and b of number 1. */
    private static StateTables pair(int costA, int a0, int a1, int costB, int b0, int b1) {
        StateTables x = Made.steps(2);
        x.choice(0, costA, a0, a1);
        x.choice(0, costB, b0, b1);
        x.choice(1, 0, 0, 0);
        return x;
    }

    @Sentence(promise = 0, says = DOMINATES)
    static void dominatesByCost(Check check) {
        check.due("one below", ran(pair(4, 0, 0, 5, 1, 1)).dominated(2, 1), 0);
        check.due("the same", ran(pair(5, 0, 0, 5, 1, 1)).dominated(2, 1), 0);
        check.due("one above", ran(pair(6, 0, 0, 5, 1, 1)).dominated(2, 1), Check.NONE);
        check.due("b does not DOMINATE a", ran(pair(6, 0, 0, 5, 1, 1)).dominated(2, 0), Check.NONE);
    }

    @Sentence(promise = 0, says = DOMINATES)
    static void dominatesByTheLeastCostTo(Check check) {
        StateTables x = Made.steps(2);
        x.choice(0, 9, 0, 0);
        x.choice(0, 5, 0, 0);
        x.choice(0, 5, 1, 0);
        x.choice(0, 4, 2, 0);
        x.choice(0, 7, 2, 0);
        x.choice(1, 0, 0, 0);
        x.run();
        check.due("not above the only COST", x.dominated(2, 1), 0);
        check.due("above the least COST TO b", x.dominated(2, 2), Check.NONE);
    }

    @Sentence(promise = 0, says = DOMINATES)
    static void dominatesByWhatIsUsed(Check check) {
        check.due("less of the first", ran(pair(0, 1, 1, 0, 2, 1)).dominated(2, 1), 0);
        check.due("less of the second", ran(pair(0, 1, 1, 0, 1, 2)).dominated(2, 1), 0);
        check.due("less of the first, more of the second", ran(pair(0, 1, 2, 0, 2, 1)).dominated(2, 1), Check.NONE);
        check.due("the other way round", ran(pair(0, 1, 2, 0, 2, 1)).dominated(2, 0), Check.NONE);
        check.due("much of the second", ran(pair(0, 0, 20, 0, 1, 20)).dominated(2, 1), 0);
        check.due("much of the first", ran(pair(0, 20, 0, 0, 20, 1)).dominated(2, 1), 0);
    }

    @Sentence(promise = 0, says = DOMINATES)
    static void dominatesWithLeastOfTheFirst(Check check) {
        StateTables less = pair(0, 1, 1, 0, 2, 1);
        less.resource(0, 1, 40);
        check.due("less of the first", ran(less).dominated(2, 1), Check.NONE);
        less.resource(0, 0, 40);
        check.due("less of the first, LEAST 0", ran(less).dominated(2, 1), 0);
        StateTables asMuch = pair(0, 1, 1, 0, 1, 2);
        asMuch.resource(0, 1, 40);
        check.due("just as much of the first", ran(asMuch).dominated(2, 1), 0);
    }

    @Sentence(promise = 0, says = DOMINATES)
    static void dominatesWithLeastOfTheSecond(Check check) {
        StateTables less = pair(0, 1, 1, 0, 1, 2);
        less.resource(1, 1, 40);
        check.due("less of the second", ran(less).dominated(2, 1), Check.NONE);
        less.resource(1, 0, 40);
        check.due("less of the second, LEAST 0", ran(less).dominated(2, 1), 0);
        StateTables asMuch = pair(0, 1, 1, 0, 2, 1);
        asMuch.resource(1, 1, 40);
        check.due("just as much of the second", ran(asMuch).dominated(2, 1), 0);
    }

    @Sentence(promise = 0, says = DOMINATES)
    static void dominatesAnotherOneOfTheSameLastChoice(Check check) {
        StateTables x = Made.steps(1);
        x.choice(0, 0, 0, 0);
        x.choice(0, 9, 1, 1);
        x.choice(0, 9, 1, 1);
        x.run();
        check.dueEach("dominated(1, i), by different CHOICES", Check.NONE, i -> x.dominated(1, i), 0, 1, 2);
        check.due("not itself", ran(Made.sized(1, 1)).dominated(2, 0), Check.NONE);
    }
}
