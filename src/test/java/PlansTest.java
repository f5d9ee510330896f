/** Promises 7 to 11: run, and the plans that it finds. */
public final class PlansTest {
    private static final int LOWEST = Integer.MIN_VALUE;
    private static final int HIGHEST = Integer.MAX_VALUE;
    private static final Check check = new Check();

    public static void main(String[] args) {
        noSteps();
        stepWithoutChoices();
        ordinary();
        bars();
        leastAndMost();
        order();
        twenty();
        greatest();
        fourHundred();
        oneTooMany();
        wrongInputs();
        check.end();
    }

    private static void noSteps() {
        StateTables x = new StateTables();
        check.due("no steps: run", x.run(), 1);
        check.due("no steps: best", x.best(), 0);
        check.due("no steps: many", x.many(), 1);
        check.due("no steps: plans", x.plans(), 1);
        check.due("no steps: plan cost", x.plan(0, -1), 0);
        x.resource(1, 1, 1);
        check.due("no steps, least: run", x.run(), 1);
        check.due("no steps, least: best", x.best(), Check.NONE);
        check.due("no steps, least: many", x.many(), 0);
        check.due("no steps, least: plans", x.plans(), 0);
        check.due("no steps, least: plan", x.plan(0, -1), Check.BAD);
    }

    private static void stepWithoutChoices() {
        StateTables x = new StateTables();
        x.step();
        x.step();
        x.step();
        x.choice(0, 1, 1, 1);
        x.choice(2, 1, 1, 1);
        check.due("no choices: run", x.run(), 2);
        check.due("no choices: best", x.best(), Check.NONE);
        check.due("no choices: many", x.many(), 0);
        check.due("no choices: plans", x.plans(), 0);
        x.choice(1, 1, 1, 1);
        check.due("a choice more: run", x.run(), 4);
        check.due("a choice more: best", x.best(), 3);
    }

    /** Two steps; costs 5, -3 and 2, 9. */
    private static StateTables twoSteps() {
        StateTables x = new StateTables();
        x.step();
        x.step();
        x.choice(0, 5, 1, 0);
        x.choice(0, -3, 4, 2);
        x.choice(1, 2, 3, 1);
        x.choice(1, 9, 0, 0);
        return x;
    }

    private static void ordinary() {
        StateTables x = twoSteps();
        check.due("ordinary: run", x.run(), 7);
        check.due("ordinary: best", x.best(), -1);
        check.due("ordinary: many", x.many(), 4);
        check.due("ordinary: plans", x.plans(), 4);
        duePlan(x, 0, -1, 1, 0);
        duePlan(x, 1, 6, 1, 1);
        duePlan(x, 2, 7, 0, 0);
        duePlan(x, 3, 14, 0, 1);
    }

    private static void duePlan(StateTables x, int k, int cost, int... choices) {
        check.due("plan(" + k + ", -1)", x.plan(k, -1), cost);
        for (int s = 0; s < choices.length; s++) {
            check.due("plan(" + k + ", " + s + ")", x.plan(k, s), choices[s]);
        }
    }

    private static void bars() {
        StateTables x = twoSteps();
        x.bar(0, 1, 0, true);
        check.due("bars: run", x.run(), 6);
        check.due("bars: many", x.many(), 3);
        check.due("bars: best", x.best(), 6);
        x.bar(0, 0, 0, true);
        check.due("bars of both: run", x.run(), 5);
        check.due("bars of both: many", x.many(), 2);
        x.bar(0, 1, 0, false);
        x.run();
        check.due("bar taken away: best", x.best(), -1);
    }

    private static void leastAndMost() {
        StateTables x = twoSteps();
        x.resource(0, 0, 6);
        check.due("most 6: run", x.run(), 6);
        check.due("most 6: best", x.best(), 6);
        x.resource(0, 0, 7);
        x.run();
        check.due("most 7: best", x.best(), -1);
        x.resource(0, 4, 40);
        check.due("least: lays all nodes", x.run(), 7);
        check.due("least 4: many", x.many(), 3);
        x.resource(0, 5, 40);
        x.run();
        check.due("least 5: many", x.many(), 1);
        x.resource(1, 3, 40);
        x.run();
        check.due("least of both: best", x.best(), -1);
        x.resource(1, 4, 40);
        x.run();
        check.due("least of both, none: best", x.best(), Check.NONE);
    }

    /** All costs alike: by the first step that differs, whatever state it leads to. */
    private static void order() {
        StateTables x = new StateTables();
        for (int s = 0; s < 3; s++) {
            x.step();
            x.choice(s, 1, 3 - s, s);
            x.choice(s, 1, s, 1);
        }
        x.run();
        check.due("order: many", x.many(), 8);
        for (int k = 0; k < 8; k++) {
            duePlan(x, k, 3, k >> 2, (k >> 1) & 1, k & 1);
        }
        x.cost(0, 0, 3);
        x.cost(2, 1, -1);
        x.run();
        duePlan(x, 0, 1, 1, 0, 1);
        duePlan(x, 1, 1, 1, 1, 1);
        duePlan(x, 2, 3, 0, 0, 1);
        duePlan(x, 3, 3, 0, 1, 1);
        duePlan(x, 4, 3, 1, 0, 0);
        duePlan(x, 5, 3, 1, 1, 0);
        duePlan(x, 6, 5, 0, 0, 0);
        duePlan(x, 7, 5, 0, 1, 0);
    }

    private static void twenty() {
        StateTables x = new StateTables();
        x.step();
        x.step();
        for (int c = 0; c < 5; c++) {
            x.choice(0, 10 * c, 0, 0);
        }
        for (int c = 0; c < 4; c++) {
            x.choice(1, -c, 0, 0);
        }
        x.run();
        check.due("20: many", x.many(), 20);
        check.due("20: plans", x.plans(), 20);
        duePlan(x, 0, -3, 0, 3);
        duePlan(x, 19, 40, 4, 0);
        check.due("20: plan(20)", x.plan(20, -1), Check.BAD);
        x.choice(0, -50, 0, 0);
        x.run();
        check.due("24: many", x.many(), 24);
        check.due("24: plans", x.plans(), 20);
        duePlan(x, 0, -53, 5, 3);
        duePlan(x, 19, 30, 3, 0);
        check.due("24: plan(20)", x.plan(20, -1), Check.BAD);
    }

    /** As many plans and as high and low costs as there can be. */
    private static void greatest() {
        StateTables x = new StateTables();
        for (int s = 0; s < 12; s++) {
            x.step();
            for (int c = 0; c < 6; c++) {
                x.choice(s, c == 5 ? -1000 : 1000, 0, 0);
            }
        }
        check.due("greatest: run", x.run(), 73);
        check.due("greatest: many", x.many(), 2176782336L);
        check.due("greatest: best", x.best(), -12000);
        check.due("greatest: plan 0", x.plan(0, 11), 5);
        check.due("greatest: plan 1 cost", x.plan(1, -1), -10000);
        check.due("greatest: plan 1 step 0", x.plan(1, 0), 0);
        check.due("greatest: plan 1 step 11", x.plan(1, 11), 5);
        check.due("greatest: plan 6 step 1", x.plan(6, 1), 0);
        for (int s = 0; s < 12; s++) {
            x.cost(s, 5, 1000);
        }
        x.run();
        check.due("greatest: all dear", x.best(), 12000);
        check.due("greatest: plan 19 step 11", x.plan(19, 11), 1);
        check.due("greatest: plan 19 step 10", x.plan(19, 10), 3);
        check.due("greatest: plan 19 step 9", x.plan(19, 9), 0);
    }

    /** 20 by 4 ways to have used, five last choices: 400 nodes in layer 4. */
    private static StateTables wide() {
        StateTables x = new StateTables();
        for (int s = 0; s < 4; s++) {
            x.step();
        }
        for (int c = 0; c < 5; c++) {
            x.choice(0, c, c, 0);
        }
        for (int c = 0; c < 4; c++) {
            x.choice(1, c, 5 * c, 0);
            x.choice(2, c, 0, c);
        }
        for (int c = 0; c < 5; c++) {
            x.choice(3, c, 0, 0);
        }
        x.resource(0, 0, 20);
        x.resource(1, 0, 20);
        return x;
    }

    private static void fourHundred() {
        StateTables x = wide();
        check.due("400: run", x.run(), 1 + 5 + 20 + 80 + 400);
        check.due("400: layer(4)", x.layer(4), 400);
        check.due("400: holds", x.count(3), 1);
        check.due("400: last node", x.node(4, 399, 2), 4);
        check.due("400: no more", x.node(4, 400, 2), Check.BAD);
        x.step();
        x.choice(4, 0, 0, 0);
        check.due("400: and 80 behind", x.run(), 506 + 80);
    }

    private static void oneTooMany() {
        StateTables x = wide();
        x.run();
        x.choice(3, 0, 20, 20);
        check.due("401: run", x.run(), Check.FULL);
        check.due("401: holds not", x.count(3), 0);
        check.due("401: best", x.best(), Check.TURN);
        check.due("401: what was laid is no more", x.layer(1), Check.TURN);
        check.due("401: run again", x.run(), Check.FULL);
        x.step();
        check.due("401: none behind", x.run(), Check.FULL);
        x.resource(1, 0, 19);
        check.due("400 again: run", x.run(), 506);
        check.due("400 again: many", x.many(), 0);
    }

    private static void wrongInputs() {
        StateTables x = twoSteps();
        x.run();
        for (int k : new int[] {-1, 4, 20, LOWEST, HIGHEST}) {
            check.due("plan(" + k + ", 0)", x.plan(k, 0), Check.BAD);
            check.due("plan(" + k + ", -1)", x.plan(k, -1), Check.BAD);
        }
        for (int s : new int[] {-2, 2, 12, LOWEST, HIGHEST}) {
            check.due("plan(0, " + s + ")", x.plan(0, s), Check.BAD);
        }
    }
}
