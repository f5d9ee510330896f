/** The boundary cases of the chapter 'Terms' about NARROW LAYERS and THE BOUND. */
public final class WideNodesBoundsTest {
    public static void main(String[] args) {
        SentenceRunner.run(WideNodesBoundsTest.class);
    }

    private static void barBehind(StateTables x, int step, int choice, int... before) {
        for (int a : before) {
            x.bar(step - 1, a, choice, true);
        }
    }

    @Sentence(promise = 0, says = "LAYER 0: one NODE, LOWS, HIGHS and COST 0, without a last CHOICE.")
    static void firstWideNode(Check check) {
        StateTables x = new StateTables();
        check.due("COST 0", x.narrow(1, true), 0);
        x.resource(0, 0, 0);
        x.resource(1, 0, 0);
        check.due("LOWS 0", x.narrow(1, true), 0);
        x.resource(0, 1, 1);
        check.due("HIGH 0 of the first", x.narrow(1, true), Check.NONE);
        x.resource(0, 0, 0);
        x.resource(1, 1, 1);
        check.due("HIGH 0 of the second", x.narrow(1, true), Check.NONE);
    }

    // ---- the next LAYER

    @Sentence(promise = 0, says = "for each CHOICE of the STEP that is not BARRED behind all of its last CHOICES "
        + "(behind none: each)")
    static void barredBehindAllLastChoices(Check check) {
        StateTables x = Made.sized(3, 1);
        check.due("BARRED behind none", x.narrow(1, true), 0);
        x.bar(0, 0, 0, true);
        check.due("BARRED behind the first", x.narrow(1, true), 0);
        check.due("which alone is left", x.narrow(1, false), Check.NONE);
        x.bar(0, 2, 0, true);
        check.due("BARRED behind all but one", x.narrow(1, true), 0);
        check.due("w 2: that one made one with the last", x.narrow(2, true), 0);
        x.bar(0, 1, 0, true);
        check.due("BARRED behind all", x.narrow(1, true), Check.NONE);
        check.due("BARRED behind each", x.narrow(3, true), Check.NONE);
    }

    @Sentence(promise = 0, says = "for each CHOICE of the STEP that is not BARRED behind all of its last CHOICES "
        + "(behind none: each)")
    static void eachChoiceOfTheFirstStep(Check check) {
        StateTables x = Made.sized(6);
        x.narrow(60, true);
        check.due("narrowed(1)", x.narrowed(1), 6);
    }

    @Sentence(promise = 0, says = "with LOW and USE together not above MOST of both RESOURCES")
    static void lowAndUseJustAtMost(Check check) {
        for (int k = 0; k <= 1; k++) {
            StateTables x = Made.steps(2);
            x.choice(0, 1, k == 0 ? 7 : 0, k == 1 ? 7 : 0);
            x.choice(1, 1, k == 0 ? 5 : 0, k == 1 ? 5 : 0);
            x.resource(k, 0, 12);
            check.due("MOST 12", x.narrow(1, true), 2);
            x.resource(k, 0, 11);
            check.due("MOST 11, LOOSE", x.narrow(1, true), Check.NONE);
            check.due("MOST 11, not LOOSE", x.narrow(1, false), Check.NONE);
        }
    }

    @Sentence(promise = 0, says = "a NODE with USES added to LOWS and HIGHS (a HIGH above MOST becomes MOST)")
    static void highAboveMost(Check check) {
        for (int k = 0; k <= 1; k++) {
            StateTables x = Made.steps(2);
            x.choice(0, 1, 0, 0);
            x.choice(0, 2, k == 0 ? 6 : 0, k == 1 ? 6 : 0);
            x.choice(1, 10, k == 0 ? 5 : 0, k == 1 ? 5 : 0);
            x.resource(k, 9, 9);
            check.due("6 + 5 becomes 9, and is not below LEAST", x.narrow(1, true), 11);
            check.due("5 alone is below", x.narrow(2, true), Check.NONE);
            x.resource(k, 12, 12);
            check.due("11 stays 11, and is below LEAST", x.narrow(1, true), Check.NONE);
            x.resource(k, 11, 12);
            check.due("11 is not below 11", x.narrow(1, true), 11);
        }
    }

    @Sentence(promise = 0, says = "a NODE with USES added to LOWS and HIGHS (a HIGH above MOST becomes MOST)")
    static void highsAboveMostMakeNodesAlike(Check check) {
        for (int k = 0; k <= 1; k++) {
            StateTables x = highsThatDiffer(k);
            x.resource(k, 0, 11);
            x.narrow(2, true);
            check.due("HIGHS of 10 and 11", x.narrowed(1), 5);
            x.resource(k, 0, 10);
            x.narrow(2, true);
            check.due("HIGHS of 10 and 10", x.narrowed(1), 4);
        }
    }

    @Sentence(promise = 0, says = "a NODE with USES added to LOWS and HIGHS (a HIGH above MOST becomes MOST)")
    static void highAboveMostOfTheOtherResource(Check check) {
        for (int k = 0; k <= 1; k++) {
            StateTables x = Made.steps(1);
            x.choice(0, 1, k == 0 ? 5 : 0, k == 1 ? 5 : 0);
            x.resource(k, 5, 40);
            x.resource(1 - k, 0, 4);
            check.due("HIGH 5 of RESOURCE " + k, x.narrow(1, true), 1);
        }
    }

    /**
     * With w 2, LOOSE: the NODES of LAYER 1 have 0 .. 0 and 0 .. 1 of RESOURCE k; behind these
     * come 10 .. 10 and 10 .. 11 by CHOICE 0, and three NODES more.
     */
    private static StateTables highsThatDiffer(int k) {
        StateTables x = Made.steps(2);
        x.choice(0, 0, 0, 0);
        x.choice(0, 0, 0, 0);
        x.choice(0, 0, k == 0 ? 1 : 0, k == 1 ? 1 : 0);
        x.choice(1, 0, k == 0 ? 10 : 0, k == 1 ? 10 : 0);
        x.choice(1, 0, 0, 0);
        x.choice(1, 1, k == 1 ? 10 : 0, k == 0 ? 10 : 0);
        barBehind(x, 1, 2, 0);
        return x;
    }

    @Sentence(promise = 0, says = "that CHOICE alone, COST added")
    static void theNewChoiceAlone(Check check) {
        StateTables x = Made.sized(2, 1, 2);
        x.cost(1, 0, 7);
        x.cost(2, 0, 3);
        x.cost(2, 1, 5);
        barBehind(x, 2, 0, 0);
        check.due("narrow(1, true)", x.narrow(1, true), 12);
        check.due("narrow(1, false)", x.narrow(1, false), 12);
    }

    @Sentence(promise = 0, says = "NODES with the same LOWS, HIGHS and last CHOICES are one, with the lesser COST.")
    static void likeNodesAreOne(Check check) {
        for (int dear = 0; dear <= 1; dear++) {
            StateTables x = Made.steps(2);
            x.choice(0, 3 + dear, 0, 0);
            x.choice(0, 4 - dear, 0, 0);
            x.choice(1, 10, 0, 0);
            check.due("the lesser COST", x.narrow(2, false), 13);
            check.due("no LAYER has more than 2", x.narrowed(1), 2);
            check.due("none was left out", x.narrowed(0), 0);
            check.due("one alone is left, which is not counted", x.narrow(1, false), 13);
            check.due("narrowed(2)", x.narrowed(2), 1);
        }
    }

    @Sentence(promise = 0, says = "NODES with the same LOWS, HIGHS and last CHOICES are one, with the lesser COST.")
    static void nodesThatDifferAreNotOne(Check check) {
        int[][] other = {{1, 0}, {0, 1}};
        for (int[] o : other) {
            StateTables x = Made.steps(2);
            x.choice(0, 0, 0, 0);
            x.choice(0, 0, o[0], o[1]);
            x.choice(1, 0, 0, 0);
            x.choice(1, 0, 0, 0);
            x.narrow(60, true);
            check.due("by LOWS, HIGHS and CHOICES", x.narrowed(1), 4);
        }
        for (int k = 0; k <= 1; k++) {
            StateTables x = highsThatDiffer(k);
            x.narrow(2, true);
            check.due("by HIGHS alone", x.narrowed(1), 5);
        }
    }

    // ---- order

    private static final String ORDER = "They are put in order: by COST, LOW of the first, of the second RESOURCE, "
        + "HIGH of the first, of the second, the last CHOICES (CHOICE c as bit c).";

    /** Which of two CHOICES of the first STEP is the one that is left of both. */
    private static int first(int cost0, int[] uses0, int cost1, int[] uses1) {
        StateTables x = Made.steps(2);
        x.choice(0, cost0, uses0[0], uses0[1]);
        x.choice(0, cost1, uses1[0], uses1[1]);
        x.choice(1, 100, 0, 0);
        x.choice(1, 200, 0, 0);
        x.bar(0, 0, 0, true);
        return x.narrow(1, false) >= 200 ? 0 : 1;
    }

    private static int[] uses(int a, int b) {
        return new int[] {a, b};
    }

    @Sentence(promise = 0, says = ORDER)
    static void orderByCostAndLows(Check check) {
        check.due("COST ahead of all", first(1, uses(0, 0), 0, uses(5, 5)), 1);
        check.due("a COST below 0", first(0, uses(0, 0), -1, uses(5, 5)), 1);
        check.due("LOW of the first", first(0, uses(2, 0), 0, uses(1, 9)), 1);
        check.due("LOW of the first, the other way round", first(0, uses(1, 9), 0, uses(2, 0)), 0);
        check.due("LOW of the second", first(0, uses(2, 4), 0, uses(2, 3)), 1);
        check.due("LOW of the second, the other way round", first(0, uses(2, 3), 0, uses(2, 4)), 0);
        check.due("the last CHOICE", first(0, uses(2, 3), 0, uses(2, 3)), 0);
    }

    @Sentence(promise = 0, says = ORDER)
    static void orderByHighAheadOfLastChoices(Check check) {
        for (int k = 0; k <= 1; k++) {
            // w 2: LAYER 1 is CHOICE 0, and 1 and 2 together, 0 .. 5. LAYER 2, in order: CHOICE 1
            // with 0 .. 0, CHOICE 0 with 0 .. 5, CHOICE 2; the last two become one, and alone go on.
            StateTables x = Made.sized(2, 2, 1);
            x.choice(0, 0, k == 0 ? 5 : 0, k == 1 ? 5 : 0);
            x.choice(1, 1, 0, 0);
            barBehind(x, 1, 0, 0);
            barBehind(x, 1, 1, 1, 2);
            barBehind(x, 1, 2, 1, 2);
            barBehind(x, 2, 0, 0, 1);
            x.resource(k, 5, 40);
            check.due("the greater HIGH of RESOURCE " + k + " is behind", x.narrow(2, true), 0);
        }
    }

    @Sentence(promise = 0, says = ORDER)
    static void orderByHighOfTheFirstAheadOfTheSecond(Check check) {
        // w 2: LAYER 2 is (0 .. 5, 0) of COST 0 by CHOICE 0, and (0, 0 .. 5) of COST 1 by 1 and 2.
        StateTables x = Made.steps(4);
        x.choice(0, 0, 0, 0);
        x.choice(0, 1, 0, 0);
        x.choice(0, 1, 5, 0);
        x.choice(1, -1, 0, 0);
        x.choice(1, 1, 0, 0);
        x.choice(1, 1, 0, 5);
        barBehind(x, 1, 0, 0);
        barBehind(x, 1, 1, 1, 2);
        barBehind(x, 1, 2, 1, 2);
        // LAYER 3, in order, both of COST 1: CHOICE 1 with (0, 0 .. 5), CHOICE 0 with (0 .. 5, 0);
        // then CHOICE 2 of COST 9 with (0 .. 5, 0), with which CHOICE 0 becomes one.
        x.choice(2, 1, 0, 0);
        x.choice(2, 0, 0, 0);
        x.choice(2, 9, 0, 0);
        barBehind(x, 2, 0, 1, 2);
        barBehind(x, 2, 1, 0);
        barBehind(x, 2, 2, 1, 2);
        // Had CHOICE 1 become one with CHOICE 2, the cheap CHOICE would go on with 0 .. 5 of the second.
        x.choice(3, 0, 0, 0);
        x.choice(3, 50, 0, 0);
        barBehind(x, 3, 0, 0, 1);
        x.resource(1, 5, 40);
        check.due("narrow(2, true)", x.narrow(2, true), 51);
    }

    // ---- more than w

    private static final String MORE = "If there are more than w: LOOSE: those from the w-th one on become one, "
        + "in its place, with their least LOWS, greatest HIGHS, all their last CHOICES, their least COST; "
        + "not LOOSE: those behind the w-th one are left out.";

    /** Three NODES, in order: (0, 0) of COST 0, (7, 2) of COST 2, (1, 8) of COST 5. */
    private static StateTables three() {
        StateTables x = Made.steps(1);
        x.choice(0, 0, 0, 0);
        x.choice(0, 2, 7, 2);
        x.choice(0, 5, 1, 8);
        return x;
    }

    @Sentence(promise = 0, says = MORE)
    static void justWAndOneMore(Check check) {
        StateTables x = three();
        x.resource(0, 7, 40);
        x.resource(1, 8, 40);
        check.due("3 of 3, LOOSE", x.narrow(3, true), Check.NONE);
        check.due("3 of 3, not LOOSE", x.narrow(3, false), Check.NONE);
        check.due("2 of 3, LOOSE", x.narrow(2, true), 2);
        check.due("2 of 3, not LOOSE", x.narrow(2, false), Check.NONE);
        check.due("1 of 3, LOOSE", x.narrow(1, true), 0);
        StateTables y = three();
        y.resource(1, 8, 40);
        check.due("the third one stays", y.narrow(3, false), 5);
        check.due("the third one is left out", y.narrow(2, false), Check.NONE);
        y.resource(1, 2, 40);
        check.due("the second one stays", y.narrow(2, false), 2);
        check.due("the second one is left out", y.narrow(1, false), Check.NONE);
    }

    @Sentence(promise = 0, says = MORE)
    static void greatestHighs(Check check) {
        for (int cheaper = 1; cheaper <= 2; cheaper++) {
            StateTables x = three();
            x.cost(0, cheaper, 1);
            x.resource(0, 7, 40);
            check.due("HIGH of the first", x.narrow(2, true), 1);
            x.resource(0, 8, 40);
            check.due("above HIGH of the first", x.narrow(2, true), Check.NONE);
            x.resource(0, 0, 40);
            x.resource(1, 8, 40);
            check.due("HIGH of the second", x.narrow(2, true), 1);
            x.resource(1, 9, 40);
            check.due("above HIGH of the second", x.narrow(2, true), Check.NONE);
        }
    }

    @Sentence(promise = 0, says = MORE)
    static void leastLows(Check check) {
        for (int cheaper = 1; cheaper <= 2; cheaper++) {
            StateTables x = three();
            x.cost(0, cheaper, 1);
            x.step();
            x.choice(1, 10, 12, 13);
            x.bar(0, 0, 0, true);
            x.resource(0, 0, 13);
            x.resource(1, 0, 15);
            check.due("1 + 12 and 2 + 13", x.narrow(2, true), 11);
            check.due("each NODE alone is above a MOST", x.narrow(3, true), Check.NONE);
            x.resource(0, 0, 12);
            check.due("above MOST of the first", x.narrow(2, true), Check.NONE);
            x.resource(0, 0, 13);
            x.resource(1, 0, 14);
            check.due("above MOST of the second", x.narrow(2, true), Check.NONE);
        }
    }

    @Sentence(promise = 0, says = MORE)
    static void allLastChoices(Check check) {
        StateTables x = three();
        x.step();
        x.choice(1, 10, 0, 0);
        barBehind(x, 1, 0, 0, 1);
        check.due("open behind CHOICE 2 alone, 3 of 3", x.narrow(3, true), 15);
        check.due("with the COST of CHOICE 1", x.narrow(2, true), 12);
        check.due("with the COST of CHOICE 0", x.narrow(1, true), 10);
        check.due("left out", x.narrow(2, false), Check.NONE);
        barBehind(x, 1, 0, 2);
        check.due("BARRED behind all", x.narrow(2, true), Check.NONE);
    }

    // ---- THE BOUND

    @Sentence(promise = 0,
        says = "THE BOUND: the least COST of a NODE of the last LAYER of which no HIGH is below LEAST.")
    static void noHighBelowLeast(Check check) {
        StateTables x = Made.steps(1);
        x.choice(0, 1, 4, 9);
        x.choice(0, 2, 9, 4);
        x.choice(0, 3, 5, 5);
        x.choice(0, 4, 9, 9);
        x.resource(0, 5, 40);
        x.resource(1, 5, 40);
        check.due("just at LEAST of both", x.narrow(60, true), 3);
        x.resource(0, 4, 40);
        check.due("the first at LEAST", x.narrow(60, true), 1);
        x.resource(0, 6, 40);
        check.due("the third below LEAST", x.narrow(60, true), 4);
        x.resource(1, 4, 40);
        check.due("the second at LEAST", x.narrow(60, true), 2);
        x.resource(1, 10, 40);
        check.due("all below LEAST", x.narrow(60, true), Check.NONE);
    }

    @Sentence(promise = 0,
        says = "THE BOUND: the least COST of a NODE of the last LAYER of which no HIGH is below LEAST.")
    static void ofTheLastLayerAlone(Check check) {
        StateTables x = Made.steps(2);
        x.choice(0, -5, 9, 0);
        x.choice(0, 5, 0, 0);
        x.choice(1, 1, 0, 0);
        x.bar(0, 0, 0, true);
        check.due("narrow(60, true)", x.narrow(60, true), 6);
        x.resource(0, 1, 40);
        check.due("with a LEAST", x.narrow(60, true), Check.NONE);
    }
}
