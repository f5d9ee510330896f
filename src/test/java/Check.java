import java.util.function.IntToLongFunction;

/** Compares answers with those that are due, and ends a test. */
final class Check {
    static final int NONE = -1000000, BAD = -2000000, FULL = -3000000, TURN = -4000000;
    static final int LOWEST = Integer.MIN_VALUE, HIGHEST = Integer.MAX_VALUE;

    private int checked = 0;
    private int wrong = 0;
    private String beside = "";

    /** What is told ahead of each wrong answer from now on. */
    void beside(String text) {
        beside = text;
    }

    void due(String call, long got, long want) {
        checked++;
        if (got != want) {
            wrong++;
            System.out.println(beside + call + " answered " + got + ", due is " + want);
        }
    }

    void due(String what, boolean holds) {
        due(what, holds ? 1 : 0, 1);
    }

    void due(String what, String got, String want) {
        due(got.equals(want) ? what : what + "\n  got  " + got + "\n  want " + want + "\n ", got.equals(want));
    }

    /** The same answer is due for each of the arguments. */
    void dueEach(String call, long want, IntToLongFunction asked, int... arguments) {
        for (int argument : arguments) {
            due(call + " with " + argument, asked.applyAsLong(argument), want);
        }
    }

    int checkedSoFar() {
        return checked;
    }

    int wrongSoFar() {
        return wrong;
    }

    /** Exit code 1 if an answer was wrong, or if nothing was checked. */
    void end() {
        System.out.println(checked + " answers checked, " + wrong + " wrong");
        if (wrong != 0 || checked == 0) {
            System.exit(1);
        }
    }
}
