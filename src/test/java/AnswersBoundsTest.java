import java.util.function.Supplier;
import java.util.function.ToLongFunction;

/** The sentences that hold for all calls: when TURN is due, which answer goes first, what is not done. */
public final class AnswersBoundsTest {
    private static final String NOTHING = "What is not done changes nothing.";
    private static final String GOES_FIRST = "Answers: TURN, then BAD, then FULL, NONE.";
    private static final String TURN = "plans (TURN: something was told behind the latest run(), or that was FULL, "
        + "or there was none)";

    public static void main(String[] args) {
        SentenceRunner.run(AnswersBoundsTest.class);
    }

    /** Two STEPS with a pair BARRED, bounds on both RESOURCES and a narrow() behind; not run. */
    private static StateTables told() {
        StateTables x = Made.example();
        x.bar(0, 1, 0, true);
        x.resource(0, 1, 30);
        x.resource(1, 0, 3);
        x.narrow(1, true);
        return x;
    }

    private static StateTables ran() {
        StateTables x = told();
        x.run();
        return x;
    }

    private static StateTables ranFull() {
        StateTables x = Made.tooWide();
        x.run();
        return x;
    }

    /** No STEP more goes in. */
    private static StateTables ranTwelve() {
        StateTables x = Made.sized(1, 1, 1, 1, 1, 1, 1, 1, 1, 1, 1, 1);
        x.run();
        return x;
    }

    /** No CHOICE more of STEP 0 goes in. */
    private static StateTables ranSix() {
        StateTables x = Made.sized(6, 1);
        x.run();
        return x;
    }

    // ---- TURN

    private static void dueTurn(Check check, String when, StateTables x) {
        check.due(when + ": best()", x.best(), Check.TURN);
        check.due(when + ": many()", x.many(), Check.TURN);
        check.due(when + ": plans()", x.plans(), Check.TURN);
        check.due(when + ": plan(0, 0)", x.plan(0, 0), Check.TURN);
        check.due(when + ": plan(0, -1)", x.plan(0, -1), Check.TURN);
        check.due(when + ": layer(0)", x.layer(0), Check.TURN);
        check.dueEach(when + ": node(0, 0, what)", Check.TURN, w -> x.node(0, 0, w), 0, 1, 2, 3, 4);
        check.due(when + ": ways(0, 0, true)", x.ways(0, 0, true), Check.TURN);
        check.due(when + ": ways(0, 0, false)", x.ways(0, 0, false), Check.TURN);
        check.due(when + ": dominated(0, 0)", x.dominated(0, 0), Check.TURN);
        check.due(when + ": leads(0, 0, 0)", x.leads(0, 0, 0), Check.TURN);
        check.due(when + ": count(3)", x.count(3), 0);
    }

    private static void dueNoTurn(Check check, String when, StateTables x) {
        check.due(when + ": best()", x.best() != Check.TURN);
        check.due(when + ": many()", x.many() != Check.TURN);
        check.due(when + ": plans()", x.plans() != Check.TURN);
        check.due(when + ": plan(0, 0)", x.plan(0, 0) != Check.TURN);
        check.due(when + ": layer(0)", x.layer(0), 1);
        check.due(when + ": node(0, 0, 2)", x.node(0, 0, 2), -1);
        check.due(when + ": ways(0, 0, true)", x.ways(0, 0, true), 1);
        check.due(when + ": dominated(0, 0)", x.dominated(0, 0), Check.NONE);
        check.due(when + ": leads(0, 0, 0)", x.leads(0, 0, 0) != Check.TURN);
        check.due(when + ": count(3)", x.count(3), 1);
    }

    @Sentence(promise = 0, says = TURN)
    static void turnWhereThereWasNoRun(Check check) {
        dueTurn(check, "new", new StateTables());
        dueTurn(check, "told", told());
        StateTables x = told();
        x.run();
        dueNoTurn(check, "run", x);
    }

    @Sentence(promise = 0, says = TURN)
    static void turnWhereTheRunWasFull(Check check) {
        dueTurn(check, "FULL", ranFull());
        StateTables x = Made.wide();
        x.run();
        dueNoTurn(check, "400 NODES", x);
        x.choice(3, 0, 20, 20);
        x.run();
        dueTurn(check, "401 NODES", x);
        x.resource(0, 0, 19);
        dueTurn(check, "told behind that", x);
        x.run();
        dueNoTurn(check, "run behind that", x);
    }

    private static void turnBehind(Check check, String call, ToLongFunction<StateTables> asked, long want) {
        StateTables x = ran();
        check.due(call, asked.applyAsLong(x), want);
        dueTurn(check, "behind " + call, x);
        x.run();
        dueNoTurn(check, "behind " + call + " and run()", x);
    }

    @Sentence(promise = 0, says = TURN)
    static void turnBehindWhatWasTold(Check check) {
        turnBehind(check, "step()", x -> x.step(), 2);
        turnBehind(check, "choice(1, 0, 0, 0)", x -> x.choice(1, 0, 0, 0), 2);
        turnBehind(check, "cost(0, 0, 5)", x -> x.cost(0, 0, 5), 4);
        turnBehind(check, "resource(0, 0, 30)", x -> x.resource(0, 0, 30), 130);
        turnBehind(check, "resource(1, 0, 4)", x -> x.resource(1, 0, 4), 3);
        turnBehind(check, "bar(0, 0, 0, true)", x -> x.bar(0, 0, 0, true), 0);
        turnBehind(check, "bar(0, 1, 0, false)", x -> x.bar(0, 1, 0, false), 1);
    }

    @Sentence(promise = 0, says = TURN)
    static void turnAlsoBehindTheSameToldAgain(Check check) {
        turnBehind(check, "cost(0, 0, 4)", x -> x.cost(0, 0, 4), 4);
        turnBehind(check, "resource(0, 1, 30)", x -> x.resource(0, 1, 30), 130);
        turnBehind(check, "bar(0, 1, 0, true)", x -> x.bar(0, 1, 0, true), 1);
        turnBehind(check, "bar(0, 0, 0, false)", x -> x.bar(0, 0, 0, false), 0);
    }

    @Sentence(promise = 0, says = TURN)
    static void noTurnBehindQuestionsAndWhatWasRefused(Check check) {
        StateTables x = ran();
        x.narrow(1, false);
        x.narrow(0, true);
        x.narrowed(0);
        x.count(2);
        x.choice(2, 0, 0, 0);
        x.cost(0, 3, 0);
        x.resource(0, 2, 1);
        x.bar(1, 0, 0, true);
        dueNoTurn(check, "refused", x);
        StateTables twelve = ranTwelve();
        twelve.step();
        dueNoTurn(check, "no STEP more", twelve);
        StateTables six = ranSix();
        six.choice(0, 0, 0, 0);
        dueNoTurn(check, "no CHOICE more", six);
    }

    @Sentence(promise = 0, says = "narrow layers.")
    static void narrowNarrowedAndCountAreNeverTurn(Check check) {
        for (StateTables x : new StateTables[] {new StateTables(), told(), ranFull()}) {
            check.due("narrow(60, true)", x.narrow(60, true) > Check.TURN);
            check.due("narrow(0, true)", x.narrow(0, true), Check.BAD);
            check.due("narrowed(1)", x.narrowed(1) > 0);
            check.due("narrowed(3)", x.narrowed(3), Check.BAD);
            check.due("count(3)", x.count(3), 0);
            check.due("count(4)", x.count(4), Check.BAD);
        }
    }

    // ---- which answer goes first

    private static void turnBeforeBad(Check check, String when, StateTables x) {
        check.due(when + ": plan(-1, 0)", x.plan(-1, 0), Check.TURN);
        check.due(when + ": plan(0, -2)", x.plan(0, -2), Check.TURN);
        check.due(when + ": plan(20, 12)", x.plan(20, 12), Check.TURN);
        check.dueEach(when + ": layer", Check.TURN, x::layer, -1, 13, Check.LOWEST, Check.HIGHEST);
        check.due(when + ": node(-1, 0, 0)", x.node(-1, 0, 0), Check.TURN);
        check.due(when + ": node(0, 1, 0)", x.node(0, 1, 0), Check.TURN);
        check.due(when + ": node(0, 0, 5)", x.node(0, 0, 5), Check.TURN);
        check.due(when + ": ways(13, 0, true)", x.ways(13, 0, true), Check.TURN);
        check.due(when + ": ways(0, -1, false)", x.ways(0, -1, false), Check.TURN);
        check.due(when + ": dominated(-1, 0)", x.dominated(-1, 0), Check.TURN);
        check.due(when + ": dominated(0, 1)", x.dominated(0, 1), Check.TURN);
        check.due(when + ": leads(-1, 0, 0)", x.leads(-1, 0, 0), Check.TURN);
        check.due(when + ": leads(0, 1, 0)", x.leads(0, 1, 0), Check.TURN);
        check.due(when + ": leads(0, 0, 6)", x.leads(0, 0, 6), Check.TURN);
    }

    @Sentence(promise = 0, says = GOES_FIRST)
    static void turnAheadOfBad(Check check) {
        turnBeforeBad(check, "new", new StateTables());
        turnBeforeBad(check, "FULL", ranFull());
        StateTables x = ran();
        x.cost(0, 0, 5);
        turnBeforeBad(check, "told", x);
    }

    @Sentence(promise = 0, says = GOES_FIRST)
    static void turnAheadOfNone(Check check) {
        StateTables x = Made.sized(1, 1);
        x.bar(0, 0, 0, true);
        x.run();
        check.due("best() behind run()", x.best(), Check.NONE);
        check.due("node(0, 0, 4) behind run()", x.node(0, 0, 4), Check.NONE);
        check.due("dominated(1, 0) behind run()", x.dominated(1, 0), Check.NONE);
        check.due("leads(1, 0, 0) behind run()", x.leads(1, 0, 0), Check.NONE);
        x.step();
        check.due("best()", x.best(), Check.TURN);
        check.due("node(0, 0, 4)", x.node(0, 0, 4), Check.TURN);
        check.due("dominated(1, 0)", x.dominated(1, 0), Check.TURN);
        check.due("leads(1, 0, 0)", x.leads(1, 0, 0), Check.TURN);
    }

    @Sentence(promise = 0, says = GOES_FIRST)
    static void badAheadOfFull(Check check) {
        StateTables x = Made.full();
        check.due("choice(0, 0, 0, 0)", x.choice(0, 0, 0, 0), Check.FULL);
        check.dueEach("choice(0, cost, 0, 0)", Check.BAD, c -> x.choice(0, c, 0, 0), -1001, 1001);
        check.dueEach("choice(0, 0, a, 0)", Check.BAD, a -> x.choice(0, 0, a, 0), -1, 21);
        check.dueEach("choice(0, 0, 0, b)", Check.BAD, b -> x.choice(0, 0, 0, b), -1, 21);
        check.dueEach("choice(step, 0, 0, 0)", Check.BAD, s -> x.choice(s, 0, 0, 0), -1, 12);
    }

    @Sentence(promise = 0, says = GOES_FIRST)
    static void badAheadOfNone(Check check) {
        StateTables x = Made.sized(1, 1);
        x.bar(0, 0, 0, true);
        x.run();
        check.due("plan(0, -1), where best() is NONE", x.plan(0, -1), Check.BAD);
        check.due("node(1, 0, 5), where nothing goes from it", x.node(1, 0, 5), Check.BAD);
        check.due("node(1, 1, 4), where nothing goes from the only one", x.node(1, 1, 4), Check.BAD);
        check.due("node(2, 0, 4), of a LAYER without NODES", x.node(2, 0, 4), Check.BAD);
        check.due("dominated(1, 1), where none dominates", x.dominated(1, 1), Check.BAD);
        check.due("leads(1, 0, 1), where the only CHOICE is BARRED", x.leads(1, 0, 1), Check.BAD);
        check.due("leads(1, 1, 0), where the only CHOICE is BARRED", x.leads(1, 1, 0), Check.BAD);
        check.due("narrow(1, true)", x.narrow(1, true), Check.NONE);
        check.dueEach("narrow(w, true), where there is no NODE", Check.BAD, w -> x.narrow(w, true), 0, 61);
    }

    // ---- what is not done

    /** The object is as one on which the call was never made, for all that later calls show. */
    private static void refused(Check check, Supplier<StateTables> made, String call,
            ToLongFunction<StateTables> asked, int want) {
        StateTables x = made.get();
        check.due(call, asked.applyAsLong(x), want);
        check.due("all shown behind " + call, Shown.all(x), Shown.all(made.get()));
    }

    /** The same where a run() holds, and where none was made. */
    private static void bad(Check check, String call, ToLongFunction<StateTables> asked) {
        refused(check, AnswersBoundsTest::ran, call, asked, Check.BAD);
        refused(check, AnswersBoundsTest::told, call, asked, Check.BAD);
    }

    @Sentence(promise = 2, says = NOTHING)
    static void stepThatIsFull(Check check) {
        refused(check, AnswersBoundsTest::ranTwelve, "step()", x -> x.step(), Check.FULL);
        refused(check, () -> Made.steps(12), "step() before run()", x -> x.step(), Check.FULL);
    }

    @Sentence(promise = 3, says = NOTHING)
    static void choiceThatIsBad(Check check) {
        bad(check, "choice(-1, 0, 0, 0)", x -> x.choice(-1, 0, 0, 0));
        bad(check, "choice(2, 0, 0, 0)", x -> x.choice(2, 0, 0, 0));
        bad(check, "choice(1, -1001, 0, 0)", x -> x.choice(1, -1001, 0, 0));
        bad(check, "choice(1, 1001, 0, 0)", x -> x.choice(1, 1001, 0, 0));
        bad(check, "choice(1, 0, -1, 0)", x -> x.choice(1, 0, -1, 0));
        bad(check, "choice(1, 0, 21, 0)", x -> x.choice(1, 0, 21, 0));
        bad(check, "choice(1, 0, 0, -1)", x -> x.choice(1, 0, 0, -1));
        bad(check, "choice(1, 0, 0, 21)", x -> x.choice(1, 0, 0, 21));
    }

    @Sentence(promise = 3, says = NOTHING)
    static void choiceThatIsFull(Check check) {
        refused(check, AnswersBoundsTest::ranSix, "choice(0, 5, 5, 5)", x -> x.choice(0, 5, 5, 5), Check.FULL);
        refused(check, () -> Made.sized(6, 1), "choice(0, 5, 5, 5) before run()",
            x -> x.choice(0, 5, 5, 5), Check.FULL);
    }

    @Sentence(promise = 4, says = NOTHING)
    static void costThatIsBad(Check check) {
        bad(check, "cost(-1, 0, 1)", x -> x.cost(-1, 0, 1));
        bad(check, "cost(2, 0, 1)", x -> x.cost(2, 0, 1));
        bad(check, "cost(0, -1, 1)", x -> x.cost(0, -1, 1));
        bad(check, "cost(0, 3, 1)", x -> x.cost(0, 3, 1));
        bad(check, "cost(0, 6, 1)", x -> x.cost(0, 6, 1));
        bad(check, "cost(1, -6, 1)", x -> x.cost(1, -6, 1));
        bad(check, "cost(0, 0, -1001)", x -> x.cost(0, 0, -1001));
        bad(check, "cost(0, 0, 1001)", x -> x.cost(0, 0, 1001));
    }

    @Sentence(promise = 5, says = NOTHING)
    static void resourceThatIsBad(Check check) {
        bad(check, "resource(-1, 0, 9)", x -> x.resource(-1, 0, 9));
        bad(check, "resource(2, 0, 9)", x -> x.resource(2, 0, 9));
        bad(check, "resource(0, -1, 9)", x -> x.resource(0, -1, 9));
        bad(check, "resource(0, 0, 41)", x -> x.resource(0, 0, 41));
        bad(check, "resource(1, 10, 9)", x -> x.resource(1, 10, 9));
        bad(check, "resource(1, 41, 41)", x -> x.resource(1, 41, 41));
    }

    @Sentence(promise = 6, says = NOTHING)
    static void barThatIsBad(Check check) {
        bad(check, "bar(-1, 0, 0, true)", x -> x.bar(-1, 0, 0, true));
        bad(check, "bar(1, 0, 0, true)", x -> x.bar(1, 0, 0, true));
        bad(check, "bar(0, -1, 0, true)", x -> x.bar(0, -1, 0, true));
        bad(check, "bar(0, 3, 0, true)", x -> x.bar(0, 3, 0, true));
        bad(check, "bar(0, 0, -1, true)", x -> x.bar(0, 0, -1, true));
        bad(check, "bar(0, 0, 2, true)", x -> x.bar(0, 0, 2, true));
        bad(check, "bar(0, 1, 2, false)", x -> x.bar(0, 1, 2, false));
    }

    @Sentence(promise = 7, says = NOTHING)
    static void runThatIsFullTellsNothing(Check check) {
        StateTables x = ranFull();
        StateTables y = Made.tooWide();
        for (int s = 0; s < 4; s++) {
            for (int c = 0; c < 6; c++) {
                check.due("cost(" + s + ", " + c + ", 0)", x.cost(s, c, 0), y.cost(s, c, 0));
            }
        }
        check.due("resource(0, 0, 40)", x.resource(0, 0, 40), y.resource(0, 0, 40));
        check.due("resource(1, 0, 40)", x.resource(1, 0, 40), y.resource(1, 0, 40));
        for (int what = 0; what <= 3; what++) {
            check.due("count(" + what + ")", x.count(what), y.count(what));
        }
        check.due("narrow(60, true)", x.narrow(60, true), y.narrow(60, true));
    }

    private static void unseen(Check check, String call, ToLongFunction<StateTables> asked, int want) {
        refused(check, AnswersBoundsTest::ran, call, asked, want);
    }

    @Sentence(promise = 11, says = NOTHING)
    static void planThatIsRefused(Check check) {
        unseen(check, "plan(-1, 0)", x -> x.plan(-1, 0), Check.BAD);
        unseen(check, "plan(20, 0)", x -> x.plan(20, 0), Check.BAD);
        unseen(check, "plan(0, 2)", x -> x.plan(0, 2), Check.BAD);
        refused(check, AnswersBoundsTest::told, "plan(0, 0)", x -> x.plan(0, 0), Check.TURN);
    }

    @Sentence(promise = 12, says = NOTHING)
    static void layerThatIsRefused(Check check) {
        unseen(check, "layer(3)", x -> x.layer(3), Check.BAD);
        refused(check, AnswersBoundsTest::told, "layer(0)", x -> x.layer(0), Check.TURN);
    }

    @Sentence(promise = 13, says = NOTHING)
    static void nodeThatIsRefused(Check check) {
        unseen(check, "node(0, 1, 0)", x -> x.node(0, 1, 0), Check.BAD);
        unseen(check, "node(0, 0, 5)", x -> x.node(0, 0, 5), Check.BAD);
        refused(check, AnswersBoundsTest::told, "node(0, 0, 0)", x -> x.node(0, 0, 0), Check.TURN);
    }

    @Sentence(promise = 14, says = NOTHING)
    static void waysThatAreRefused(Check check) {
        unseen(check, "ways(0, 1, true)", x -> x.ways(0, 1, true), Check.BAD);
        refused(check, AnswersBoundsTest::told, "ways(0, 0, true)", x -> x.ways(0, 0, true), Check.TURN);
    }

    @Sentence(promise = 15, says = NOTHING)
    static void dominatedThatIsRefused(Check check) {
        unseen(check, "dominated(0, 1)", x -> x.dominated(0, 1), Check.BAD);
        unseen(check, "dominated(0, 0)", x -> x.dominated(0, 0), Check.NONE);
        refused(check, AnswersBoundsTest::told, "dominated(0, 0)", x -> x.dominated(0, 0), Check.TURN);
    }

    @Sentence(promise = 16, says = NOTHING)
    static void leadsThatIsRefused(Check check) {
        unseen(check, "leads(2, 0, 0)", x -> x.leads(2, 0, 0), Check.BAD);
        unseen(check, "leads(1, 2, 0)", x -> x.leads(1, 2, 0), Check.NONE);
        refused(check, AnswersBoundsTest::told, "leads(0, 0, 0)", x -> x.leads(0, 0, 0), Check.TURN);
    }

    @Sentence(promise = 17, says = NOTHING)
    static void narrowThatIsBad(Check check) {
        bad(check, "narrow(0, true)", x -> x.narrow(0, true));
        bad(check, "narrow(61, false)", x -> x.narrow(61, false));
    }

    @Sentence(promise = 18, says = NOTHING)
    static void narrowedThatIsBad(Check check) {
        bad(check, "narrowed(-1)", x -> x.narrowed(-1));
        bad(check, "narrowed(3)", x -> x.narrowed(3));
    }

    @Sentence(promise = 19, says = NOTHING)
    static void countThatIsBad(Check check) {
        bad(check, "count(-1)", x -> x.count(-1));
        bad(check, "count(4)", x -> x.count(4));
    }
}
