/** Compares answers with those that are due, and ends a test. */
final class Check {
    static final int NONE = -1000000, BAD = -2000000, FULL = -3000000, TURN = -4000000;

    private int checked = 0;
    private int wrong = 0;

    void due(String call, long got, long want) {
        checked++;
        if (got != want) {
            wrong++;
            System.out.println(call + " answered " + got + ", due is " + want);
        }
    }

    void due(String what, boolean holds) {
        due(what, holds ? 1 : 0, 1);
    }

    int wrongSoFar() {
        return wrong;
    }

    /** Exit code 1 if an answer was wrong, or if nothing was checked. */
    void end() {
        System.out.println(checked + " answers checked, " + wrong + " wrong");
        if (wrong != 0 || checked == 0) {
            System.exit(1);
        }
    }
}
