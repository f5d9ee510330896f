/** The boundary cases of promises 17 and 18, sentence by sentence. */
public final class NarrowBoundsTest {
    public static void main(String[] args) {
        SentenceRunner.run(NarrowBoundsTest.class);
    }

    /** LAYER 1 has six NODES, of COST 1 .. 6, that have used 0 .. 5 of the first RESOURCE. */
    private static StateTables six() {
        StateTables x = Made.steps(1);
        for (int c = 0; c < 6; c++) {
            x.choice(0, c + 1, c, 0);
        }
        return x;
    }

    /** LAYERS of 1, 6, 30 and 60 NODES; (0, 0) alone has room for USES of 20 and 20 more. */
    private static StateTables sixty() {
        StateTables x = Made.steps(3);
        for (int c = 0; c < 6; c++) {
            x.choice(0, 0, 0, c);
        }
        for (int c = 0; c < 5; c++) {
            x.choice(1, 0, c, 0);
        }
        x.choice(2, 0, 0, 0);
        x.choice(2, 0, 5, 0);
        x.resource(0, 0, 20);
        x.resource(1, 0, 20);
        return x;
    }

    private static StateTables sixtyOne() {
        StateTables x = sixty();
        x.choice(2, 9, 20, 20);
        return x;
    }

    private static void dueNarrowed(Check check, String when, StateTables x, int... want) {
        for (int what = 0; what < 3; what++) {
            check.due(when + ": narrowed(" + what + ")", x.narrowed(what), want[what]);
        }
    }

    // ---- promise 17

    @Sentence(promise = 17, says = "THE BOUND by NARROW LAYERS of w (1 .. 60), LOOSE or not.")
    static void leastAndGreatestWidthAreTaken(Check check) {
        StateTables x = six();
        check.due("narrow(1, true)", x.narrow(1, true), 1);
        check.due("narrow(1, false)", x.narrow(1, false), 1);
        check.due("narrow(60, true)", x.narrow(60, true), 1);
        check.due("narrow(60, false)", x.narrow(60, false), 1);
    }

    @Sentence(promise = 17, says = "THE BOUND by NARROW LAYERS of w (1 .. 60), LOOSE or not.")
    static void looseIsNotAboveTheBestAndTheOtherNotBelow(Check check) {
        StateTables x = six();
        x.resource(0, 3, 40);
        x.run();
        check.due("best()", x.best(), 4);
        int[] loose = {1, 2, 3, 4, 4, 4};
        int[] strict = {Check.NONE, Check.NONE, Check.NONE, 4, 4, 4};
        for (int w = 1; w <= 6; w++) {
            check.due("narrow(" + w + ", true)", x.narrow(w, true), loose[w - 1]);
            check.due("narrow(" + w + ", false)", x.narrow(w, false), strict[w - 1]);
        }
    }

    @Sentence(promise = 17, says = "THE BOUND by NARROW LAYERS of w (1 .. 60), LOOSE or not.")
    static void narrowWithoutSteps(Check check) {
        StateTables x = new StateTables();
        check.due("narrow(1, true)", x.narrow(1, true), 0);
        check.due("narrow(60, false)", x.narrow(60, false), 0);
    }

    @Sentence(promise = 17, says = "THE BOUND by NARROW LAYERS of w (1 .. 60), LOOSE or not.")
    static void narrowNeedsNoRun(Check check) {
        StateTables x = six();
        check.due("before run()", x.narrow(3, true), 1);
        x.run();
        x.cost(0, 0, 0);
        check.due("behind what was told", x.narrow(3, true), 0);
        StateTables full = Made.tooWide();
        full.run();
        check.due("behind run() that was FULL", full.narrow(60, true), 0);
        check.due("not LOOSE", full.narrow(60, false), 0);
        check.due("count(3)", full.count(3), 0);
    }

    @Sentence(promise = 17, says = "THE BOUND by NARROW LAYERS of w (1 .. 60), LOOSE or not.")
    static void leastAndGreatestBound(Check check) {
        StateTables x = Made.full();
        for (int s = 0; s < 12; s++) {
            for (int c = 0; c < 6; c++) {
                x.cost(s, c, c == 5 ? -1000 : 1000);
            }
        }
        check.due("twelve of -1000, LOOSE", x.narrow(1, true), -12000);
        check.due("twelve of -1000, not LOOSE", x.narrow(1, false), -12000);
        for (int s = 0; s < 12; s++) {
            x.cost(s, 5, 1000);
        }
        check.due("twelve of 1000, LOOSE", x.narrow(60, true), 12000);
        check.due("twelve of 1000, not LOOSE", x.narrow(1, false), 12000);
    }

    @Sentence(promise = 17, says = "BAD: another w.")
    static void narrowOfAnotherWidth(Check check) {
        StateTables x = six();
        check.dueEach("narrow(w, true)", Check.BAD, w -> x.narrow(w, true),
            0, -1, 61, Check.LOWEST, Check.HIGHEST);
        check.dueEach("narrow(w, false)", Check.BAD, w -> x.narrow(w, false),
            0, -1, 61, Check.LOWEST, Check.HIGHEST);
        check.dueEach("narrow(w, true) without STEPS", Check.BAD, w -> new StateTables().narrow(w, true), 0, 61);
    }

    @Sentence(promise = 17, says = "NONE: there is no such NODE.")
    static void boundOfNoNode(Check check) {
        StateTables none = Made.sized(2, 0, 2);
        check.due("a STEP without CHOICES, LOOSE", none.narrow(60, true), Check.NONE);
        check.due("a STEP without CHOICES, not LOOSE", none.narrow(1, false), Check.NONE);
        StateTables barred = Made.sized(1, 1);
        barred.bar(0, 0, 0, true);
        check.due("all BARRED", barred.narrow(1, true), Check.NONE);
        StateTables above = Made.steps(1);
        above.choice(0, 0, 0, 1);
        above.resource(1, 0, 0);
        check.due("above MOST", above.narrow(1, true), Check.NONE);
        StateTables empty = new StateTables();
        empty.resource(0, 1, 1);
        check.due("no STEP, and a LEAST above 0", empty.narrow(1, true), Check.NONE);
    }

    @Sentence(promise = 17, says = "NONE: there is no such NODE.")
    static void boundOfNodesBelowLeast(Check check) {
        StateTables x = six();
        x.resource(0, 5, 40);
        check.due("one at LEAST", x.narrow(6, false), 6);
        check.due("that one left out", x.narrow(5, false), Check.NONE);
        x.resource(0, 6, 40);
        check.due("all below LEAST", x.narrow(6, false), Check.NONE);
        check.due("all below LEAST, LOOSE", x.narrow(1, true), Check.NONE);
    }

    // ---- promise 18

    @Sentence(promise = 18, says = "Of the latest narrow() that was not BAD: 0 how many NODES became one with others, "
        + "or were left out, 1 the most NODES that a LAYER had (before that), 2 how many LAYERS had more than w.")
    static void justAsManyNodesAsTheWidth(Check check) {
        StateTables x = six();
        x.narrow(6, true);
        dueNarrowed(check, "6 of 6, LOOSE", x, 0, 6, 0);
        x.narrow(6, false);
        dueNarrowed(check, "6 of 6, not LOOSE", x, 0, 6, 0);
        x.narrow(5, true);
        dueNarrowed(check, "5 of 6, LOOSE", x, 2, 6, 1);
        x.narrow(5, false);
        dueNarrowed(check, "5 of 6, not LOOSE", x, 1, 6, 1);
        x.narrow(1, true);
        dueNarrowed(check, "1 of 6, LOOSE", x, 6, 6, 1);
        x.narrow(1, false);
        dueNarrowed(check, "1 of 6, not LOOSE", x, 5, 6, 1);
    }

    @Sentence(promise = 18, says = "Of the latest narrow() that was not BAD: 0 how many NODES became one with others, "
        + "or were left out, 1 the most NODES that a LAYER had (before that), 2 how many LAYERS had more than w.")
    static void sixtyAndSixtyOneNodes(Check check) {
        StateTables x = sixty();
        x.narrow(60, true);
        dueNarrowed(check, "60 of 60, LOOSE", x, 0, 60, 0);
        x.narrow(60, false);
        dueNarrowed(check, "60 of 60, not LOOSE", x, 0, 60, 0);
        x.narrow(59, false);
        dueNarrowed(check, "59 of 60, not LOOSE", x, 1, 60, 1);
        StateTables y = sixtyOne();
        y.narrow(60, true);
        dueNarrowed(check, "60 of 61, LOOSE", y, 2, 61, 1);
        y.narrow(60, false);
        dueNarrowed(check, "60 of 61, not LOOSE", y, 1, 61, 1);
        y.resource(0, 20, 20);
        check.due("the last one left out", y.narrow(60, false), Check.NONE);
        check.due("the last one made one with the one before", y.narrow(60, true), 0);
    }

    @Sentence(promise = 18, says = "Of the latest narrow() that was not BAD: 0 how many NODES became one with others, "
        + "or were left out, 1 the most NODES that a LAYER had (before that), 2 how many LAYERS had more than w.")
    static void asManyNodesAsThereCanBe(Check check) {
        StateTables x = sixty();
        x.resource(1, 0, 40);
        x.step();
        for (int c = 0; c < 6; c++) {
            x.choice(3, 0, 0, 6 * Math.min(c, 3));
        }
        x.narrow(60, false);
        dueNarrowed(check, "360, not LOOSE", x, 300, 360, 1);
        x.narrow(60, true);
        dueNarrowed(check, "360, LOOSE", x, 301, 360, 1);
    }

    @Sentence(promise = 18, says = "Of the latest narrow() that was not BAD: 0 how many NODES became one with others, "
        + "or were left out, 1 the most NODES that a LAYER had (before that), 2 how many LAYERS had more than w.")
    static void allTwelveLayersHadMore(Check check) {
        StateTables x = Made.full();
        x.narrow(1, false);
        dueNarrowed(check, "1 of 6 twelve times, not LOOSE", x, 12 * 5, 6, 12);
        x.narrow(1, true);
        dueNarrowed(check, "1 of 6 twelve times, LOOSE", x, 12 * 6, 6, 12);
        x.narrow(5, true);
        dueNarrowed(check, "5 of 6 twelve times, LOOSE", x, 12 * 2, 6, 12);
        x.narrow(6, true);
        dueNarrowed(check, "6 of 6 twelve times", x, 0, 6, 0);
    }

    @Sentence(promise = 18, says = "Of the latest narrow() that was not BAD: 0 how many NODES became one with others, "
        + "or were left out, 1 the most NODES that a LAYER had (before that), 2 how many LAYERS had more than w.")
    static void theWidestLayerIsNotTheLast(Check check) {
        StateTables x = Made.sized(6, 6, 1, 2);
        x.narrow(2, false);
        dueNarrowed(check, "6, 6, 1 and 2", x, 8, 6, 2);
        StateTables none = Made.sized(2, 0);
        check.due("narrow(1, false)", none.narrow(1, false), Check.NONE);
        dueNarrowed(check, "2 and none", none, 1, 2, 1);
    }

    @Sentence(promise = 18, says = "Of the latest narrow() that was not BAD: 0 how many NODES became one with others, "
        + "or were left out, 1 the most NODES that a LAYER had (before that), 2 how many LAYERS had more than w.")
    static void theLatestThatWasNotBad(Check check) {
        StateTables x = six();
        x.narrow(4, true);
        dueNarrowed(check, "narrow(4, true)", x, 3, 6, 1);
        x.narrow(0, true);
        x.narrow(61, false);
        dueNarrowed(check, "BAD ones behind it", x, 3, 6, 1);
        x.step();
        x.run();
        dueNarrowed(check, "step() and run() behind it", x, 3, 6, 1);
        check.due("narrow(60, true)", x.narrow(60, true), Check.NONE);
        dueNarrowed(check, "one that was NONE", x, 0, 6, 0);
    }

    @Sentence(promise = 18, says = "Of the latest narrow() that was not BAD: 0 how many NODES became one with others, "
        + "or were left out, 1 the most NODES that a LAYER had (before that), 2 how many LAYERS had more than w.")
    static void theFirstLayerIsALayer(Check check) {
        StateTables x = new StateTables();
        x.narrow(1, true);
        dueNarrowed(check, "no STEP", x, 0, 1, 0);
        StateTables y = Made.steps(12);
        y.narrow(1, false);
        dueNarrowed(check, "no CHOICES", y, 0, 1, 0);
    }

    @Sentence(promise = 18, says = "BAD: another number.")
    static void narrowedOfAnotherNumber(Check check) {
        StateTables x = six();
        check.dueEach("narrowed before narrow()", Check.BAD, x::narrowed, -1, 3, Check.LOWEST, Check.HIGHEST);
        x.narrow(4, true);
        check.dueEach("narrowed", Check.BAD, x::narrowed, -1, 3, Check.LOWEST, Check.HIGHEST);
    }

    @Sentence(promise = 18, says = "(0 before.)")
    static void narrowedBeforeAnyNarrow(Check check) {
        StateTables x = six();
        dueNarrowed(check, "at first", x, 0, 0, 0);
        x.run();
        dueNarrowed(check, "behind run()", x, 0, 0, 0);
        x.narrow(0, true);
        x.narrow(61, true);
        dueNarrowed(check, "behind BAD ones", x, 0, 0, 0);
    }
}
