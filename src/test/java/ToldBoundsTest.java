/** The boundary cases of promises 1 to 6 and 19, sentence by sentence. */
public final class ToldBoundsTest {
    public static void main(String[] args) {
        SentenceRunner.run(ToldBoundsTest.class);
    }

    // ---- promise 1

    @Sentence(promise = 1, says = "No STEPS.")
    static void newObjectCountsNothing(Check check) {
        StateTables x = new StateTables();
        check.dueEach("count", 0, x::count, 0, 1, 2, 3);
        check.dueEach("narrowed", 0, x::narrowed, 0, 1, 2);
    }

    @Sentence(promise = 1, says = "No STEPS.")
    static void newObjectHasNothingToChange(Check check) {
        StateTables x = new StateTables();
        check.due("choice(0, 0, 0, 0)", x.choice(0, 0, 0, 0), Check.BAD);
        check.due("cost(0, 0, 0)", x.cost(0, 0, 0), Check.BAD);
        check.due("bar(0, 0, 0, true)", x.bar(0, 0, 0, true), Check.BAD);
        check.due("count(1)", x.count(1), 0);
        check.due("the first step()", x.step(), 0);
    }

    @Sentence(promise = 1, says = "No STEPS.")
    static void newObjectHasTheFirstLayerAlone(Check check) {
        StateTables x = new StateTables();
        check.due("run()", x.run(), 1);
        check.due("layer(0)", x.layer(0), 1);
        check.due("layer(1)", x.layer(1), Check.BAD);
    }

    @Sentence(promise = 1, says = "No STEPS.")
    static void newObjectKnowsNothingOfOthers(Check check) {
        StateTables other = Made.example();
        other.bar(0, 0, 0, true);
        other.resource(0, 1, 2);
        other.run();
        other.narrow(1, true);
        StateTables x = new StateTables();
        check.dueEach("count", 0, x::count, 0, 1, 2, 3);
        check.dueEach("narrowed", 0, x::narrowed, 0, 1, 2);
        check.due("resource(0, 0, 40)", x.resource(0, 0, 40), 40);
        x.step();
        check.due("the other's count(0)", other.count(0), 2);
        check.due("the other's count(3)", other.count(3), 1);
    }

    // ---- promise 2

    @Sentence(promise = 2, says = "A STEP more, without CHOICES: its number.")
    static void stepsAreNumberedFromZero(Check check) {
        StateTables x = new StateTables();
        for (int s = 0; s < 12; s++) {
            check.due("step() behind " + s, x.step(), s);
            check.due("count(0)", x.count(0), s + 1);
        }
    }

    @Sentence(promise = 2, says = "A STEP more, without CHOICES: its number.")
    static void newStepHasNoChoices(Check check) {
        StateTables x = Made.sized(6, 6);
        check.due("step()", x.step(), 2);
        check.due("cost(2, 0, 0)", x.cost(2, 0, 0), Check.BAD);
        check.due("bar(1, 0, 0, true)", x.bar(1, 0, 0, true), Check.BAD);
        check.due("count(1)", x.count(1), 12);
        check.due("run()", x.run(), 1 + 6 + 6);
        check.due("layer(3)", x.layer(3), 0);
        check.due("its first choice()", x.choice(2, 0, 0, 0), 0);
    }

    @Sentence(promise = 2, says = "FULL: 12.")
    static void twelfthStepIsTakenAndNoMore(Check check) {
        StateTables x = Made.steps(11);
        check.due("the twelfth step()", x.step(), 11);
        check.due("count(0)", x.count(0), 12);
        check.due("the thirteenth step()", x.step(), Check.FULL);
        check.due("step() once more", x.step(), Check.FULL);
        check.due("count(0) behind them", x.count(0), 12);
        check.due("choice(11, 0, 0, 0)", x.choice(11, 0, 0, 0), 0);
        check.due("choice(12, 0, 0, 0)", x.choice(12, 0, 0, 0), Check.BAD);
    }

    @Sentence(promise = 2, says = "FULL: 12.")
    static void fullWithAllChoicesTold(Check check) {
        StateTables x = Made.full();
        check.due("step()", x.step(), Check.FULL);
        check.due("count(0)", x.count(0), 12);
        check.due("count(1)", x.count(1), 72);
    }

    // ---- promise 3

    @Sentence(promise = 3,
        says = "A CHOICE more of a STEP, with a COST (- 1,000 .. 1,000) and USES (0 .. 20): its number.")
    static void choicesAreNumberedInEachStep(Check check) {
        StateTables x = Made.steps(12);
        for (int c = 0; c < 6; c++) {
            check.due("choice() of STEP 0", x.choice(0, 0, 0, 0), c);
            check.due("choice() of STEP 11", x.choice(11, 0, 0, 0), c);
        }
        check.due("count(1)", x.count(1), 12);
    }

    @Sentence(promise = 3,
        says = "A CHOICE more of a STEP, with a COST (- 1,000 .. 1,000) and USES (0 .. 20): its number.")
    static void leastAndGreatestCostAreTaken(Check check) {
        StateTables x = Made.steps(1);
        check.due("choice(0, -1000, 0, 0)", x.choice(0, -1000, 0, 0), 0);
        check.due("choice(0, 1000, 0, 0)", x.choice(0, 1000, 0, 0), 1);
        x.run();
        check.due("node(1, 0, 3)", x.node(1, 0, 3), -1000);
        check.due("node(1, 1, 3)", x.node(1, 1, 3), 1000);
    }

    @Sentence(promise = 3,
        says = "A CHOICE more of a STEP, with a COST (- 1,000 .. 1,000) and USES (0 .. 20): its number.")
    static void leastAndGreatestUsesAreTaken(Check check) {
        StateTables x = Made.steps(1);
        int[][] uses = {{0, 0}, {0, 20}, {20, 0}, {20, 20}};
        for (int c = 0; c < 4; c++) {
            check.due("choice()", x.choice(0, 0, uses[c][0], uses[c][1]), c);
        }
        check.due("run()", x.run(), 5);
        for (int c = 0; c < 4; c++) {
            check.due("node(1, " + c + ", 0)", x.node(1, c, 0), uses[c][0]);
            check.due("node(1, " + c + ", 1)", x.node(1, c, 1), uses[c][1]);
        }
    }

    @Sentence(promise = 3,
        says = "A CHOICE more of a STEP, with a COST (- 1,000 .. 1,000) and USES (0 .. 20): its number.")
    static void usesAboveMostAreTaken(Check check) {
        StateTables x = Made.steps(1);
        x.resource(0, 0, 19);
        check.due("choice(0, 0, 20, 0)", x.choice(0, 0, 20, 0), 0);
        check.due("run()", x.run(), 1);
        check.due("leads(0, 0, 0)", x.leads(0, 0, 0), Check.NONE);
    }

    @Sentence(promise = 3, says = "BAD: no STEP, another COST, USE.")
    static void choiceOfNoStep(Check check) {
        StateTables x = Made.steps(2);
        check.dueEach("choice(step, 0, 0, 0)", Check.BAD, s -> x.choice(s, 0, 0, 0),
            -1, 2, 11, 12, Check.LOWEST, Check.HIGHEST);
        check.due("count(1)", x.count(1), 0);
        check.due("choice(1, 0, 0, 0)", x.choice(1, 0, 0, 0), 0);
        check.due("choice(0, 0, 0, 0)", x.choice(0, 0, 0, 0), 0);
    }

    @Sentence(promise = 3, says = "BAD: no STEP, another COST, USE.")
    static void choiceOfNoStepBehindTwelve(Check check) {
        StateTables x = Made.steps(12);
        check.dueEach("choice(step, 0, 0, 0)", Check.BAD, s -> x.choice(s, 0, 0, 0), -1, 12, 13);
        check.due("choice(11, 0, 0, 0)", x.choice(11, 0, 0, 0), 0);
    }

    @Sentence(promise = 3, says = "BAD: no STEP, another COST, USE.")
    static void choiceOfAnotherCost(Check check) {
        StateTables x = Made.steps(1);
        check.dueEach("choice(0, cost, 0, 0)", Check.BAD, c -> x.choice(0, c, 0, 0),
            -1001, 1001, Check.LOWEST, Check.HIGHEST);
        check.due("count(1)", x.count(1), 0);
    }

    @Sentence(promise = 3, says = "BAD: no STEP, another COST, USE.")
    static void choiceOfAnotherUse(Check check) {
        StateTables x = Made.steps(1);
        check.dueEach("choice(0, 0, a, 0)", Check.BAD, u -> x.choice(0, 0, u, 0),
            -1, 21, Check.LOWEST, Check.HIGHEST);
        check.dueEach("choice(0, 0, 0, b)", Check.BAD, u -> x.choice(0, 0, 0, u),
            -1, 21, Check.LOWEST, Check.HIGHEST);
        check.due("count(1)", x.count(1), 0);
        check.due("choice(0, 0, 20, 20)", x.choice(0, 0, 20, 20), 0);
    }

    @Sentence(promise = 3, says = "FULL: 6.")
    static void sixthChoiceIsTakenAndNoMore(Check check) {
        StateTables x = Made.sized(5, 0, 5);
        check.due("the sixth choice()", x.choice(0, 1, 1, 1), 5);
        check.due("a seventh choice()", x.choice(0, 1, 1, 1), Check.FULL);
        check.due("choice() once more", x.choice(0, 1, 1, 1), Check.FULL);
        check.due("count(1)", x.count(1), 11);
        check.due("the STEP behind has none", x.choice(1, 0, 0, 0), 0);
        check.due("the sixth of the last STEP", x.choice(2, 0, 0, 0), 5);
        check.due("a seventh of the last STEP", x.choice(2, 0, 0, 0), Check.FULL);
    }

    @Sentence(promise = 3, says = "FULL: 6.")
    static void sixOfEachOfTwelveSteps(Check check) {
        StateTables x = Made.full();
        check.due("count(1)", x.count(1), 72);
        check.dueEach("choice(step, 0, 0, 0)", Check.FULL, s -> x.choice(s, 0, 0, 0), 0, 1, 5, 10, 11);
        check.due("count(1) behind them", x.count(1), 72);
    }

    // ---- promise 4

    @Sentence(promise = 4, says = "Another COST for a CHOICE: what it was.")
    static void costTellsWhatItWas(Check check) {
        StateTables x = Made.steps(1);
        x.choice(0, 7, 1, 2);
        check.due("cost(0, 0, -1000)", x.cost(0, 0, -1000), 7);
        check.due("cost(0, 0, 1000)", x.cost(0, 0, 1000), -1000);
        check.due("cost(0, 0, 1000) again", x.cost(0, 0, 1000), 1000);
        check.due("cost(0, 0, 0)", x.cost(0, 0, 0), 1000);
        check.due("cost(0, 0, 3)", x.cost(0, 0, 3), 0);
        x.run();
        check.due("best()", x.best(), 3);
        check.due("node(1, 0, 0)", x.node(1, 0, 0), 1);
        check.due("node(1, 0, 1)", x.node(1, 0, 1), 2);
    }

    @Sentence(promise = 4, says = "Another COST for a CHOICE: what it was.")
    static void costOfTheFirstAndTheLastChoice(Check check) {
        StateTables x = Made.full();
        check.due("cost(0, 0, 5)", x.cost(0, 0, 5), 0);
        check.due("cost(0, 5, 6)", x.cost(0, 5, 6), 0);
        check.due("cost(11, 0, 7)", x.cost(11, 0, 7), 0);
        check.due("cost(11, 5, 8)", x.cost(11, 5, 8), 0);
        check.due("cost(0, 1, 0), untouched", x.cost(0, 1, 0), 0);
        check.due("cost(1, 0, 0), untouched", x.cost(1, 0, 0), 0);
        check.due("cost(10, 5, 0), untouched", x.cost(10, 5, 0), 0);
        check.due("cost(0, 0, 0)", x.cost(0, 0, 0), 5);
        check.due("cost(0, 5, 0)", x.cost(0, 5, 0), 6);
        check.due("cost(11, 0, 0)", x.cost(11, 0, 0), 7);
        check.due("cost(11, 5, 0)", x.cost(11, 5, 0), 8);
    }

    @Sentence(promise = 4, says = "BAD: no CHOICE, another COST.")
    static void costOfNoChoice(Check check) {
        StateTables x = Made.sized(6, 2, 0);
        check.dueEach("cost(step, 0, 1)", Check.BAD, s -> x.cost(s, 0, 1),
            -1, 2, 3, 12, Check.LOWEST, Check.HIGHEST);
        check.dueEach("cost(0, choice, 1)", Check.BAD, c -> x.cost(0, c, 1),
            -1, 6, 7, Check.LOWEST, Check.HIGHEST);
        check.dueEach("cost(1, choice, 1)", Check.BAD, c -> x.cost(1, c, 1), -1, -6, 2, 5, 6);
        check.dueEach("cost(0, choice, 0), untouched", 0, c -> x.cost(0, c, 0), 0, 1, 2, 3, 4, 5);
        check.dueEach("cost(1, choice, 0), untouched", 0, c -> x.cost(1, c, 0), 0, 1);
        check.due("a new CHOICE has its own COST", x.choice(1, 9, 0, 0), 2);
        check.due("cost(1, 2, 0)", x.cost(1, 2, 0), 9);
    }

    @Sentence(promise = 4, says = "BAD: no CHOICE, another COST.")
    static void costOfAnotherValue(Check check) {
        StateTables x = Made.sized(1);
        check.dueEach("cost(0, 0, c)", Check.BAD, c -> x.cost(0, 0, c),
            -1001, 1001, Check.LOWEST, Check.HIGHEST);
        check.due("cost(0, 0, 1), untouched", x.cost(0, 0, 1), 0);
    }

    // ---- promise 5

    @Sentence(promise = 5, says = "LEAST and MOST (0 .. 40, LEAST not above MOST) of a RESOURCE (0, 1): "
        + "what they were (100 LEAST, and MOST).")
    static void resourceTellsWhatTheyWere(Check check) {
        for (int k = 0; k <= 1; k++) {
            StateTables x = new StateTables();
            check.due("resource(k, 0, 0)", x.resource(k, 0, 0), 40);
            check.due("resource(k, 40, 40)", x.resource(k, 40, 40), 0);
            check.due("resource(k, 17, 17)", x.resource(k, 17, 17), 4040);
            check.due("resource(k, 0, 40)", x.resource(k, 0, 40), 1717);
            check.due("resource(k, 39, 40)", x.resource(k, 39, 40), 40);
            check.due("resource(k, 0, 1)", x.resource(k, 0, 1), 3940);
            check.due("resource(k, 0, 1) again", x.resource(k, 0, 1), 1);
            check.due("resource of the other one", x.resource(1 - k, 1, 2), 40);
            check.due("resource(k, 0, 40) behind that", x.resource(k, 0, 40), 1);
        }
    }

    @Sentence(promise = 5, says = "BAD.")
    static void resourceOfNoSuch(Check check) {
        StateTables x = new StateTables();
        check.dueEach("resource(k, 1, 2)", Check.BAD, k -> x.resource(k, 1, 2),
            -1, 2, Check.LOWEST, Check.HIGHEST);
        check.due("resource(0, 0, 40), untouched", x.resource(0, 0, 40), 40);
        check.due("resource(1, 0, 40), untouched", x.resource(1, 0, 40), 40);
    }

    @Sentence(promise = 5, says = "BAD.")
    static void resourceOutsideItsBounds(Check check) {
        for (int k = 0; k <= 1; k++) {
            int of = k;
            StateTables x = new StateTables();
            x.resource(k, 3, 33);
            check.dueEach("resource(k, least, 40)", Check.BAD, l -> x.resource(of, l, 40),
                -1, 41, Check.LOWEST, Check.HIGHEST);
            check.dueEach("resource(k, 0, most)", Check.BAD, m -> x.resource(of, 0, m),
                -1, 41, Check.LOWEST, Check.HIGHEST);
            check.dueEach("resource(k, both, both)", Check.BAD, b -> x.resource(of, b, b),
                -1, 41, Check.LOWEST, Check.HIGHEST);
            check.due("resource(k, 3, 33), untouched", x.resource(k, 3, 33), 333);
        }
    }

    @Sentence(promise = 5, says = "BAD.")
    static void leastAboveMost(Check check) {
        StateTables x = new StateTables();
        check.dueEach("resource(0, most + 1, most)", Check.BAD, m -> x.resource(0, m + 1, m), 0, 1, 20, 39, 40);
        check.dueEach("resource(1, most + 1, most)", Check.BAD, m -> x.resource(1, m + 1, m), 0, 1, 20, 39, 40);
        check.due("resource(1, 40, 0)", x.resource(1, 40, 0), Check.BAD);
        check.due("resource(0, HIGHEST, LOWEST)", x.resource(0, Check.HIGHEST, Check.LOWEST), Check.BAD);
        check.due("resource(0, 20, 20)", x.resource(0, 20, 20), 40);
        check.due("resource(1, 20, 20)", x.resource(1, 20, 20), 40);
    }

    // ---- promise 6

    @Sentence(promise = 6,
        says = "CHOICE b of the STEP behind this one is BARRED behind its CHOICE a, or not: 1 it was, 0.")
    static void barTellsWhetherItWas(Check check) {
        StateTables x = Made.sized(1, 1);
        check.due("off, as at first", x.bar(0, 0, 0, false), 0);
        check.due("on", x.bar(0, 0, 0, true), 0);
        check.due("on again", x.bar(0, 0, 0, true), 1);
        check.due("count(2)", x.count(2), 1);
        check.due("off", x.bar(0, 0, 0, false), 1);
        check.due("off again", x.bar(0, 0, 0, false), 0);
        check.due("count(2) behind that", x.count(2), 0);
    }

    @Sentence(promise = 6,
        says = "CHOICE b of the STEP behind this one is BARRED behind its CHOICE a, or not: 1 it was, 0.")
    static void barOfTheFirstAndTheLastPair(Check check) {
        StateTables x = Made.full();
        int[][] pairs = {{0, 0, 0}, {0, 5, 5}, {10, 0, 0}, {10, 5, 5}, {5, 0, 5}, {5, 5, 0}};
        for (int[] p : pairs) {
            check.due("on", x.bar(p[0], p[1], p[2], true), 0);
        }
        check.due("count(2)", x.count(2), 6);
        check.due("bar(1, 0, 0) is another pair", x.bar(1, 0, 0, false), 0);
        check.due("bar(0, 0, 5) is another pair", x.bar(0, 0, 5, false), 0);
        check.due("bar(0, 5, 0) is another pair", x.bar(0, 5, 0, false), 0);
        for (int[] p : pairs) {
            check.due("off", x.bar(p[0], p[1], p[2], false), 1);
        }
        check.due("count(2) behind that", x.count(2), 0);
    }

    @Sentence(promise = 6,
        says = "CHOICE b of the STEP behind this one is BARRED behind its CHOICE a, or not: 1 it was, 0.")
    static void barIsOfOnePairAndOneWay(Check check) {
        StateTables x = Made.sized(2, 2, 2);
        x.bar(0, 0, 1, true);
        check.due("the other way round", x.bar(0, 1, 0, false), 0);
        check.due("of the next STEP", x.bar(1, 0, 1, false), 0);
        x.run();
        check.due("many()", x.many(), 6);
        check.due("behind CHOICE 0, CHOICE 0", x.leads(1, 0, 0), 0);
        check.due("behind CHOICE 0, CHOICE 1", x.leads(1, 0, 1), Check.NONE);
        check.due("behind CHOICE 1, CHOICE 1", x.leads(1, 1, 1), 1);
        check.due("a STEP later", x.leads(2, 0, 1), 1);
    }

    @Sentence(promise = 6, says = "BAD: no such CHOICES.")
    static void barOfNoStepBehind(Check check) {
        StateTables x = Made.sized(2, 2);
        check.dueEach("bar(step, 0, 0, true)", Check.BAD, s -> x.bar(s, 0, 0, true),
            -2, -1, 1, 2, 12, Check.LOWEST, Check.HIGHEST, Check.HIGHEST - 1);
        check.due("count(2)", x.count(2), 0);
        StateTables one = Made.sized(1);
        check.due("of the only STEP", one.bar(0, 0, 0, true), Check.BAD);
        StateTables full = Made.full();
        check.due("of the twelfth STEP", full.bar(11, 0, 0, true), Check.BAD);
        check.due("of the eleventh STEP", full.bar(10, 0, 0, true), 0);
    }

    @Sentence(promise = 6, says = "BAD: no such CHOICES.")
    static void barOfNoChoiceAhead(Check check) {
        StateTables x = Made.sized(2, 6, 4);
        check.dueEach("bar(0, a, 0, true)", Check.BAD, a -> x.bar(0, a, 0, true),
            -1, 2, 5, 6, Check.LOWEST, Check.HIGHEST);
        check.dueEach("bar(1, a, 3, true)", Check.BAD, a -> x.bar(1, a, 3, true), -1, 6, 32);
        check.due("count(2)", x.count(2), 0);
        check.due("the last one", x.bar(0, 1, 0, true), 0);
    }

    @Sentence(promise = 6, says = "BAD: no such CHOICES.")
    static void barOfNoChoiceBehind(Check check) {
        StateTables x = Made.sized(6, 2, 4);
        check.dueEach("bar(0, 0, b, true)", Check.BAD, b -> x.bar(0, 0, b, true),
            -1, 2, 5, 6, Check.LOWEST, Check.HIGHEST);
        check.dueEach("bar(1, 1, b, true)", Check.BAD, b -> x.bar(1, 1, b, true), -1, 4, 6);
        check.due("count(2)", x.count(2), 0);
        check.due("the last one", x.bar(0, 5, 1, true), 0);
    }

    @Sentence(promise = 6, says = "BAD: no such CHOICES.")
    static void barOfStepsWithoutChoices(Check check) {
        StateTables x = Made.sized(1, 0, 1);
        check.due("none behind", x.bar(0, 0, 0, true), Check.BAD);
        check.due("none ahead", x.bar(1, 0, 0, true), Check.BAD);
        check.due("count(2)", x.count(2), 0);
        x.choice(1, 0, 0, 0);
        check.due("one behind", x.bar(0, 0, 0, true), 0);
        check.due("one ahead", x.bar(1, 0, 0, true), 0);
    }

    // ---- promise 19

    @Sentence(promise = 19, says = "0 STEPS, 1 CHOICES in all, 2 pairs that are BARRED, "
        + "3 whether the latest run() holds still (1, 0).")
    static void countsOfAFullObject(Check check) {
        StateTables x = Made.full();
        for (int s = 0; s < 11; s++) {
            for (int pair = 0; pair < 36; pair++) {
                x.bar(s, pair / 6, pair % 6, true);
            }
        }
        check.due("count(0)", x.count(0), 12);
        check.due("count(1)", x.count(1), 72);
        check.due("count(2)", x.count(2), 396);
        check.due("count(3)", x.count(3), 0);
        check.due("run()", x.run(), 7);
        check.due("count(3) behind that", x.count(3), 1);
    }

    @Sentence(promise = 19, says = "0 STEPS, 1 CHOICES in all, 2 pairs that are BARRED, "
        + "3 whether the latest run() holds still (1, 0).")
    static void countsOfStepsWithoutChoices(Check check) {
        StateTables x = Made.sized(0, 3, 0);
        check.due("count(0)", x.count(0), 3);
        check.due("count(1)", x.count(1), 3);
        check.due("count(2)", x.count(2), 0);
    }

    @Sentence(promise = 19, says = "0 STEPS, 1 CHOICES in all, 2 pairs that are BARRED, "
        + "3 whether the latest run() holds still (1, 0).")
    static void countOfARunThatHolds(Check check) {
        StateTables x = Made.wide();
        check.due("before run()", x.count(3), 0);
        x.run();
        check.due("behind run()", x.count(3), 1);
        x.best();
        x.layer(99);
        x.narrow(1, true);
        x.narrow(0, true);
        check.due("behind questions", x.count(3), 1);
        x.run();
        check.due("behind run() again", x.count(3), 1);
        x.choice(3, 0, 20, 20);
        check.due("behind what was told", x.count(3), 0);
        check.due("run()", x.run(), Check.FULL);
        check.due("behind run() that was FULL", x.count(3), 0);
        x.resource(0, 0, 19);
        x.run();
        check.due("behind one that was not", x.count(3), 1);
    }

    @Sentence(promise = 19, says = "BAD: another number.")
    static void countOfAnotherNumber(Check check) {
        StateTables x = Made.example();
        x.run();
        check.dueEach("count", Check.BAD, x::count, -1, 4, Check.LOWEST, Check.HIGHEST);
        check.due("count(0)", x.count(0), 2);
        check.due("count(3)", x.count(3), 1);
    }
}
