/** The boundary cases of promises 12 to 16, sentence by sentence. */
public final class LayersBoundsTest {
    public static void main(String[] args) {
        SentenceRunner.run(LayersBoundsTest.class);
    }

    private static final int[] NO_LAYERS = {-1, 3, 12, 13, Check.LOWEST, Check.HIGHEST, Check.HIGHEST - 1};

    private static StateTables ran(StateTables x) {
        x.run();
        return x;
    }

    /** NODES of LAYER 1: one from which a PLAN goes, one that is BARRED, one above MOST, one below LEAST. */
    private static StateTables deadEnds() {
        StateTables x = Made.steps(2);
        x.choice(0, 1, 2, 0);
        x.choice(0, 2, 3, 0);
        x.choice(0, 3, 4, 4);
        x.choice(0, 4, 1, 0);
        x.choice(1, 10, 3, 1);
        x.resource(0, 5, 40);
        x.resource(1, 0, 4);
        x.bar(0, 1, 0, true);
        return ran(x);
    }

    // ---- promise 12

    @Sentence(promise = 12, says = "How many NODES a LAYER has.")
    static void sizesOfTheFirstAndTheLastLayer(Check check) {
        StateTables x = ran(Made.example());
        check.due("layer(0)", x.layer(0), 1);
        check.due("layer(1)", x.layer(1), 3);
        check.due("layer(2)", x.layer(2), 4);
        StateTables full = ran(Made.full());
        check.due("layer(0) of thirteen", full.layer(0), 1);
        check.due("layer(1) of thirteen", full.layer(1), 6);
        check.due("layer(12) of thirteen", full.layer(12), 6);
    }

    @Sentence(promise = 12, says = "How many NODES a LAYER has.")
    static void sizesOfLayersWithoutNodes(Check check) {
        StateTables x = ran(Made.sized(2, 0, 3));
        check.due("layer(1)", x.layer(1), 2);
        check.due("layer(2)", x.layer(2), 0);
        check.due("layer(3)", x.layer(3), 0);
        StateTables barred = Made.sized(1, 1);
        barred.bar(0, 0, 0, true);
        check.due("layer(2) with all BARRED", ran(barred).layer(2), 0);
        StateTables above = Made.steps(1);
        above.choice(0, 0, 1, 0);
        above.resource(0, 0, 0);
        check.due("layer(1) with all above MOST", ran(above).layer(1), 0);
    }

    @Sentence(promise = 12, says = "How many NODES a LAYER has.")
    static void sizesBehindAnotherRun(Check check) {
        StateTables x = ran(Made.wide());
        check.due("layer(4)", x.layer(4), 400);
        x.resource(0, 0, 0);
        x.resource(1, 0, 0);
        check.due("run()", x.run(), 1 + 1 + 1 + 1 + 5);
        check.due("layer(4) with no room", x.layer(4), 5);
        x.step();
        check.due("run() with a STEP more", x.run(), 9);
        check.due("layer(5)", x.layer(5), 0);
    }

    @Sentence(promise = 12, says = "TURN.")
    static void layerIsNotDueYet(Check check) {
        StateTables x = Made.example();
        check.due("before run()", x.layer(0), Check.TURN);
        x.run();
        check.due("behind run()", x.layer(0), 1);
        x.step();
        check.due("behind step()", x.layer(0), Check.TURN);
        check.due("behind run() that was FULL", ran(Made.tooWide()).layer(0), Check.TURN);
    }

    @Sentence(promise = 12, says = "BAD: none such.")
    static void noSuchLayer(Check check) {
        StateTables x = ran(Made.example());
        check.dueEach("layer", Check.BAD, x::layer, NO_LAYERS);
        StateTables empty = ran(new StateTables());
        check.dueEach("layer without STEPS", Check.BAD, empty::layer, -1, 1, 2, 12);
        check.due("layer(0) without STEPS", empty.layer(0), 1);
        StateTables full = ran(Made.full());
        check.dueEach("layer of thirteen", Check.BAD, full::layer, -1, 13, 14);
    }

    // ---- promise 13

    @Sentence(promise = 13, says = "Of NODE i of a LAYER: 0, 1 what is used of each RESOURCE, 2 the last CHOICE, "
        + "3 the least COST TO it, 4 FROM it (NONE: nothing goes from it).")
    static void firstNodeOfAll(Check check) {
        StateTables x = ran(Made.example());
        dueNode(check, x, 0, 0, 0, 0, -1, 0, 8);
        dueNode(check, ran(new StateTables()), 0, 0, 0, 0, -1, 0, 0);
    }

    private static void dueNode(Check check, StateTables x, int d, int i, int... want) {
        for (int what = 0; what < want.length; what++) {
            check.due("node(" + d + ", " + i + ", " + what + ")", x.node(d, i, what), want[what]);
        }
    }

    @Sentence(promise = 13, says = "Of NODE i of a LAYER: 0, 1 what is used of each RESOURCE, 2 the last CHOICE, "
        + "3 the least COST TO it, 4 FROM it (NONE: nothing goes from it).")
    static void firstAndLastNodeOfALayer(Check check) {
        StateTables x = ran(Made.example());
        dueNode(check, x, 1, 0, 0, 2, 2, -2, 10);
        dueNode(check, x, 1, 2, 1, 0, 1, 6, 10);
        dueNode(check, x, 2, 0, 0, 4, 0, 8, 0);
        dueNode(check, x, 2, 3, 2, 0, 1, 24, 0);
    }

    @Sentence(promise = 13, says = "Of NODE i of a LAYER: 0, 1 what is used of each RESOURCE, 2 the last CHOICE, "
        + "3 the least COST TO it, 4 FROM it (NONE: nothing goes from it).")
    static void allThatMayBeUsed(Check check) {
        StateTables x = Made.steps(3);
        x.choice(0, -1000, 20, 20);
        x.choice(1, -1000, 20, 20);
        x.choice(2, -1000, 0, 0);
        x.run();
        dueNode(check, x, 2, 0, 40, 40, 0, -2000, -1000);
        dueNode(check, x, 3, 0, 40, 40, 0, -3000, 0);
    }

    @Sentence(promise = 13, says = "Of NODE i of a LAYER: 0, 1 what is used of each RESOURCE, 2 the last CHOICE, "
        + "3 the least COST TO it, 4 FROM it (NONE: nothing goes from it).")
    static void leastAndGreatestCosts(Check check) {
        StateTables x = Made.full();
        for (int s = 0; s < 12; s++) {
            for (int c = 0; c < 6; c++) {
                x.cost(s, c, c == 0 ? 1000 : -1000);
            }
        }
        x.run();
        check.due("TO the dear one", x.node(12, 0, 3), -11 * 1000 + 1000);
        check.due("TO a cheap one", x.node(12, 5, 3), -12000);
        check.due("FROM the first one", x.node(0, 0, 4), -12000);
        check.due("FROM one of LAYER 1", x.node(1, 0, 4), -11000);
    }

    @Sentence(promise = 13, says = "4 FROM it (NONE: nothing goes from it)")
    static void nothingGoesFromANode(Check check) {
        StateTables x = deadEnds();
        dueNode(check, x, 1, 0, 1, 0, 3, 4, Check.NONE);
        dueNode(check, x, 1, 1, 2, 0, 0, 1, 10);
        dueNode(check, x, 1, 2, 3, 0, 1, 2, Check.NONE);
        dueNode(check, x, 1, 3, 4, 4, 2, 3, Check.NONE);
        dueNode(check, x, 2, 0, 4, 1, 0, 14, Check.NONE);
        dueNode(check, x, 2, 1, 5, 1, 0, 11, 0);
    }

    @Sentence(promise = 13, says = "4 FROM it (NONE: nothing goes from it)")
    static void nothingGoesAheadOfAStepWithoutChoices(Check check) {
        StateTables x = ran(Made.sized(1, 0));
        check.due("node(0, 0, 4)", x.node(0, 0, 4), Check.NONE);
        check.due("node(1, 0, 4)", x.node(1, 0, 4), Check.NONE);
        check.due("node(1, 0, 3)", x.node(1, 0, 3), 0);
        StateTables empty = new StateTables();
        empty.resource(0, 1, 1);
        check.due("without STEPS, below LEAST", ran(empty).node(0, 0, 4), Check.NONE);
    }

    @Sentence(promise = 13, says = "4 FROM it (NONE: nothing goes from it)")
    static void cheaperRowsFromItThatMakeNoPlan(Check check) {
        for (int plan = 0; plan <= 1; plan++) {
            StateTables x = Made.steps(2);
            x.choice(0, 0, 0, 0);
            x.choice(1, plan == 0 ? 7 : -7, 0, plan == 0 ? 3 : 2);
            x.choice(1, plan == 1 ? 7 : -7, 0, plan == 1 ? 3 : 2);
            x.resource(1, 3, 40);
            x.run();
            check.due("FROM LAYER 1", x.node(1, 0, 4), 7);
            check.due("FROM LAYER 0", x.node(0, 0, 4), 7);
            check.due("ways FROM LAYER 1", x.ways(1, 0, false), 1);
        }
    }

    @Sentence(promise = 13, says = "TURN.")
    static void nodeIsNotDueYet(Check check) {
        StateTables x = Made.example();
        check.dueEach("before run(): what", Check.TURN, w -> x.node(0, 0, w), 0, 1, 2, 3, 4);
        x.run();
        check.due("behind run()", x.node(0, 0, 2), -1);
        x.cost(0, 0, 1);
        check.dueEach("behind cost(): what", Check.TURN, w -> x.node(0, 0, w), 0, 1, 2, 3, 4);
        check.due("behind run() that was FULL", ran(Made.tooWide()).node(0, 0, 2), Check.TURN);
    }

    @Sentence(promise = 13, says = "BAD: none such, another what.")
    static void noSuchNode(Check check) {
        StateTables x = ran(Made.example());
        check.dueEach("node(d, 0, 0)", Check.BAD, d -> x.node(d, 0, 0), NO_LAYERS);
        check.dueEach("node(0, i, 0)", Check.BAD, i -> x.node(0, i, 0), -1, 1, Check.LOWEST, Check.HIGHEST);
        check.dueEach("node(1, i, 0)", Check.BAD, i -> x.node(1, i, 0), -1, 3, 4, 400);
        check.dueEach("node(2, i, 0)", Check.BAD, i -> x.node(2, i, 0), -1, 4, Check.LOWEST, Check.HIGHEST);
        StateTables empty = ran(Made.sized(2, 0, 3));
        check.due("of a LAYER without NODES", empty.node(2, 0, 0), Check.BAD);
        check.due("of the last LAYER without NODES", empty.node(3, 0, 4), Check.BAD);
        StateTables wide = ran(Made.wide());
        check.due("the last of 400", wide.node(4, 399, 2), 4);
        check.due("behind 400", wide.node(4, 400, 2), Check.BAD);
    }

    @Sentence(promise = 13, says = "BAD: none such, another what.")
    static void nodeOfAnotherWhat(Check check) {
        StateTables x = ran(Made.example());
        check.dueEach("node(0, 0, what)", Check.BAD, w -> x.node(0, 0, w), -1, 5, Check.LOWEST, Check.HIGHEST);
        check.dueEach("node(2, 3, what)", Check.BAD, w -> x.node(2, 3, w), -1, 5, 6);
    }

    // ---- promise 14

    @Sentence(promise = 14, says = "How many ROWS come TO a NODE, or how many rows go FROM it.")
    static void waysOfTheFirstAndTheLastNodes(Check check) {
        StateTables x = ran(Made.example());
        check.due("TO the first", x.ways(0, 0, true), 1);
        check.due("FROM the first", x.ways(0, 0, false), 6);
        check.due("TO (1, 2) by 0", x.ways(2, 1, true), 2);
        check.due("TO (2, 0) by 1", x.ways(2, 3, true), 2);
        check.due("FROM the last", x.ways(2, 3, false), 1);
        StateTables empty = ran(new StateTables());
        check.due("TO the only one", empty.ways(0, 0, true), 1);
        check.due("FROM the only one", empty.ways(0, 0, false), 1);
    }

    @Sentence(promise = 14, says = "How many ROWS come TO a NODE, or how many rows go FROM it.")
    static void waysWhereNothingGoes(Check check) {
        StateTables x = deadEnds();
        int[] from = {0, 1, 0, 0};
        for (int i = 0; i < 4; i++) {
            check.due("FROM node " + i, x.ways(1, i, false), from[i]);
            check.due("TO node " + i, x.ways(1, i, true), 1);
        }
        check.due("FROM one below LEAST", x.ways(2, 0, false), 0);
        check.due("FROM one at LEAST", x.ways(2, 1, false), 1);
        StateTables none = ran(Made.sized(3, 0));
        check.due("FROM the first, a STEP without CHOICES", none.ways(0, 0, false), 0);
        StateTables empty = new StateTables();
        empty.resource(1, 1, 1);
        check.due("FROM the only one, below LEAST", ran(empty).ways(0, 0, false), 0);
    }

    @Sentence(promise = 14, says = "How many ROWS come TO a NODE, or how many rows go FROM it.")
    static void asManyWaysAsThereCanBe(Check check) {
        StateTables x = ran(Made.full());
        check.due("FROM the first", x.ways(0, 0, false), 2176782336L);
        check.due("FROM one of LAYER 1", x.ways(1, 5, false), 362797056L);
        check.due("TO one of LAYER 12", x.ways(12, 5, true), 362797056L);
        check.due("FROM one of LAYER 12", x.ways(12, 5, false), 1);
        StateTables y = Made.sized(6, 6, 6, 6, 6, 6, 6, 6, 6, 6, 6, 1);
        check.due("TO the only one of LAYER 12", ran(y).ways(12, 0, true), 362797056L);
    }

    @Sentence(promise = 14, says = "How many ROWS come TO a NODE, or how many rows go FROM it.")
    static void waysBehindAnotherRun(Check check) {
        StateTables x = ran(ran(Made.example()));
        check.due("TO (1, 2) by 0", x.ways(2, 1, true), 2);
        check.due("FROM the first", x.ways(0, 0, false), 6);
        x.bar(0, 0, 0, true);
        x.run();
        check.due("TO (1, 2) by 0, a pair BARRED", x.ways(2, 1, true), 1);
        check.due("FROM the first, a pair BARRED", x.ways(0, 0, false), 5);
    }

    @Sentence(promise = 14, says = "TURN.")
    static void waysAreNotDueYet(Check check) {
        StateTables x = Made.example();
        check.due("TO, before run()", x.ways(0, 0, true), Check.TURN);
        check.due("FROM, before run()", x.ways(0, 0, false), Check.TURN);
        x.run();
        x.resource(1, 0, 1);
        check.due("TO, behind resource()", x.ways(0, 0, true), Check.TURN);
        check.due("FROM, behind resource()", x.ways(0, 0, false), Check.TURN);
        check.due("behind run() that was FULL", ran(Made.tooWide()).ways(0, 0, true), Check.TURN);
    }

    @Sentence(promise = 14, says = "BAD: none such.")
    static void waysOfNoNode(Check check) {
        StateTables x = ran(Made.example());
        check.dueEach("ways(d, 0, true)", Check.BAD, d -> x.ways(d, 0, true), NO_LAYERS);
        check.dueEach("ways(d, 0, false)", Check.BAD, d -> x.ways(d, 0, false), NO_LAYERS);
        check.dueEach("ways(0, i, true)", Check.BAD, i -> x.ways(0, i, true), -1, 1);
        check.dueEach("ways(2, i, false)", Check.BAD, i -> x.ways(2, i, false),
            -1, 4, Check.LOWEST, Check.HIGHEST);
        StateTables empty = ran(Made.sized(2, 0, 3));
        check.due("TO one of a LAYER without NODES", empty.ways(2, 0, true), Check.BAD);
        check.due("FROM one of a LAYER without NODES", empty.ways(2, 0, false), Check.BAD);
    }

    // ---- promise 15

    @Sentence(promise = 15, says = "The NODE with the least number that DOMINATES this one.")
    static void firstOfSeveralThatDominate(Check check) {
        StateTables x = Made.steps(2);
        x.choice(0, 5, 0, 0);
        x.choice(0, 3, 1, 0);
        x.choice(0, 3, 2, 0);
        x.choice(0, 5, 3, 0);
        x.choice(1, 0, 0, 0);
        x.run();
        check.due("the first", x.dominated(2, 0), Check.NONE);
        check.due("cheaper than the first", x.dominated(2, 1), Check.NONE);
        check.due("behind one alone", x.dominated(2, 2), 1);
        check.due("behind all three", x.dominated(2, 3), 0);
    }

    @Sentence(promise = 15, says = "The NODE with the least number that DOMINATES this one.")
    static void firstOfFourHundredDominatesTheLast(Check check) {
        StateTables x = ran(Made.wide());
        check.due("the first by CHOICE 4", x.dominated(4, 4), Check.NONE);
        check.due("the last by CHOICE 4", x.dominated(4, 399), 4);
        check.due("the last by CHOICE 0", x.dominated(4, 395), 0);
    }

    @Sentence(promise = 15, says = "TURN.")
    static void dominatedIsNotDueYet(Check check) {
        StateTables x = Made.example();
        check.due("before run()", x.dominated(0, 0), Check.TURN);
        x.run();
        check.due("behind run()", x.dominated(0, 0), Check.NONE);
        x.bar(0, 0, 0, true);
        check.due("behind bar()", x.dominated(0, 0), Check.TURN);
        check.due("behind run() that was FULL", ran(Made.tooWide()).dominated(0, 0), Check.TURN);
    }

    @Sentence(promise = 15, says = "BAD: none such.")
    static void dominatedOfNoNode(Check check) {
        StateTables x = ran(Made.example());
        check.dueEach("dominated(d, 0)", Check.BAD, d -> x.dominated(d, 0), NO_LAYERS);
        check.dueEach("dominated(0, i)", Check.BAD, i -> x.dominated(0, i), -1, 1);
        check.dueEach("dominated(2, i)", Check.BAD, i -> x.dominated(2, i),
            -1, 4, Check.LOWEST, Check.HIGHEST);
        StateTables empty = ran(Made.sized(2, 0, 3));
        check.due("of a LAYER without NODES", empty.dominated(2, 0), Check.BAD);
    }

    @Sentence(promise = 15, says = "NONE.")
    static void noneDominates(Check check) {
        StateTables x = ran(Made.example());
        check.due("the only one of its LAYER", x.dominated(0, 0), Check.NONE);
        check.dueEach("dominated(1, i), by different CHOICES", Check.NONE, i -> x.dominated(1, i), 0, 1, 2);
        check.due("the first of the last LAYER", x.dominated(2, 0), Check.NONE);
    }

    // ---- promise 16

    @Sentence(promise = 16, says = "The NODE of the next LAYER to which a CHOICE leads.")
    static void leadsFromTheFirstToTheLast(Check check) {
        StateTables x = ran(Made.example());
        int[] first = {1, 2, 0};
        for (int c = 0; c < 3; c++) {
            check.due("leads(0, 0, " + c + ")", x.leads(0, 0, c), first[c]);
        }
        int[][] next = {{0, 2}, {1, 3}, {1, 3}};
        for (int i = 0; i < 3; i++) {
            check.due("leads(1, " + i + ", 0)", x.leads(1, i, 0), next[i][0]);
            check.due("leads(1, " + i + ", 1)", x.leads(1, i, 1), next[i][1]);
        }
        StateTables full = ran(Made.full());
        check.due("leads(11, 5, 5)", full.leads(11, 5, 5), 5);
        check.due("leads(11, 0, 0)", full.leads(11, 0, 0), 0);
        StateTables wide = ran(Made.wide());
        check.due("leads(3, 79, 4)", wide.leads(3, 79, 4), 399);
    }

    @Sentence(promise = 16, says = "TURN.")
    static void leadsIsNotDueYet(Check check) {
        StateTables x = Made.example();
        check.due("before run()", x.leads(0, 0, 0), Check.TURN);
        x.run();
        check.due("behind run()", x.leads(0, 0, 0), 1);
        x.choice(0, 0, 0, 0);
        check.due("behind choice()", x.leads(0, 0, 0), Check.TURN);
        check.due("behind run() that was FULL", ran(Made.tooWide()).leads(0, 0, 0), Check.TURN);
    }

    @Sentence(promise = 16, says = "BAD: no NODE, the last LAYER, no CHOICE of that STEP.")
    static void leadsFromNoNode(Check check) {
        StateTables x = ran(Made.example());
        check.dueEach("leads(d, 0, 0)", Check.BAD, d -> x.leads(d, 0, 0), NO_LAYERS);
        check.dueEach("leads(0, i, 0)", Check.BAD, i -> x.leads(0, i, 0), -1, 1, Check.LOWEST, Check.HIGHEST);
        check.dueEach("leads(1, i, 0)", Check.BAD, i -> x.leads(1, i, 0), -1, 3, 400);
        StateTables empty = ran(Made.sized(2, 0, 3));
        check.due("of a LAYER without NODES", empty.leads(2, 0, 0), Check.BAD);
    }

    @Sentence(promise = 16, says = "BAD: no NODE, the last LAYER, no CHOICE of that STEP.")
    static void leadsFromTheLastLayer(Check check) {
        StateTables x = ran(Made.example());
        check.dueEach("leads(2, i, 0)", Check.BAD, i -> x.leads(2, i, 0), 0, 3, 4);
        check.due("leads(0, 0, 0) without STEPS", ran(new StateTables()).leads(0, 0, 0), Check.BAD);
        check.due("leads(12, 0, 0)", ran(Made.full()).leads(12, 0, 0), Check.BAD);
    }

    @Sentence(promise = 16, says = "BAD: no NODE, the last LAYER, no CHOICE of that STEP.")
    static void leadsByNoChoice(Check check) {
        StateTables x = ran(Made.example());
        check.dueEach("leads(0, 0, choice)", Check.BAD, c -> x.leads(0, 0, c),
            -1, 3, 6, Check.LOWEST, Check.HIGHEST);
        check.dueEach("leads(1, 2, choice)", Check.BAD, c -> x.leads(1, 2, c), -1, 2, 5, 6);
        StateTables none = ran(Made.sized(2, 0));
        check.due("of a STEP without CHOICES", none.leads(1, 0, 0), Check.BAD);
        StateTables full = ran(Made.full());
        check.dueEach("leads(1, 1, choice) of six", Check.BAD, c -> full.leads(1, 1, c), -1, 6, 7);
    }

    @Sentence(promise = 16, says = "NONE: it is BARRED, or above a MOST.")
    static void leadsNowhereIfBarred(Check check) {
        StateTables x = Made.sized(2, 2);
        x.bar(0, 0, 0, true);
        x.bar(0, 1, 1, true);
        x.run();
        check.due("leads(1, 0, 0)", x.leads(1, 0, 0), Check.NONE);
        check.due("leads(1, 0, 1)", x.leads(1, 0, 1), 1);
        check.due("leads(1, 1, 0)", x.leads(1, 1, 0), 0);
        check.due("leads(1, 1, 1)", x.leads(1, 1, 1), Check.NONE);
        x.bar(0, 0, 0, false);
        x.run();
        check.due("leads(1, 0, 0), no more BARRED", x.leads(1, 0, 0), 0);
        check.due("leads(0, 0, 0), behind none", x.leads(0, 0, 0), 0);
    }

    @Sentence(promise = 16, says = "NONE: it is BARRED, or above a MOST.")
    static void leadsNowhereAboveAMost(Check check) {
        StateTables x = Made.steps(2);
        x.choice(0, 0, 3, 5);
        x.choice(1, 0, 4, 0);
        x.choice(1, 0, 0, 4);
        x.resource(0, 0, 7);
        x.resource(1, 0, 9);
        x.run();
        check.due("just at MOST of the first", x.leads(1, 0, 0), 1);
        check.due("just at MOST of the second", x.leads(1, 0, 1), 0);
        x.resource(0, 0, 6);
        x.run();
        check.due("one above MOST of the first", x.leads(1, 0, 0), Check.NONE);
        check.due("the other CHOICE", x.leads(1, 0, 1), 0);
        x.resource(0, 0, 7);
        x.resource(1, 0, 8);
        x.run();
        check.due("one above MOST of the second", x.leads(1, 0, 1), Check.NONE);
        check.due("the other CHOICE then", x.leads(1, 0, 0), 0);
    }

    @Sentence(promise = 16, says = "NONE: it is BARRED, or above a MOST.")
    static void leadsAlsoWhereNoPlanGoes(Check check) {
        StateTables x = deadEnds();
        check.due("to one below LEAST", x.leads(1, 0, 0), 0);
        check.due("to one at LEAST", x.leads(1, 1, 0), 1);
        check.due("BARRED", x.leads(1, 2, 0), Check.NONE);
        check.due("above MOST", x.leads(1, 3, 0), Check.NONE);
    }
}
