import java.util.StringJoiner;

/** What an object's calls show, as one text, so that two objects can be compared. */
final class Shown {
    /** An object answers 512 calls; the rest is for those that build it. */
    private static final int CALLS_AT_MOST = 450;

    private final StateTables x;
    private final StringJoiner text = new StringJoiner(" ");
    private int calls = 0;

    private Shown(StateTables x) {
        this.x = x;
    }

    /**
     * What is shown now, by narrow() and behind a run() too, and last what was told,
     * which is read by telling something else: the object is of no use afterwards.
     */
    static String all(StateTables x) {
        Shown shown = new Shown(x);
        shown.asked();
        shown.add("narrow", x.narrow(2, true));
        shown.narrowed();
        shown.add("run", x.run());
        shown.asked();
        shown.told();
        return shown.text.toString();
    }

    private int add(String call, long answer) {
        calls++;
        if (calls > CALLS_AT_MOST) {
            throw new IllegalStateException("too large an object to be shown");
        }
        text.add(call + "=" + answer);
        return (int) answer;
    }

    private void asked() {
        int steps = add("count0", x.count(0));
        for (int what = 1; what <= 3; what++) {
            add("count" + what, x.count(what));
        }
        narrowed();
        add("best", x.best());
        add("many", x.many());
        int plans = add("plans", x.plans());
        for (int k = 0; k < plans; k++) {
            for (int s = -1; s < steps; s++) {
                add("plan" + k + "," + s, x.plan(k, s));
            }
        }
        for (int d = 0; d <= steps; d++) {
            layer(d);
        }
    }

    private void narrowed() {
        for (int what = 0; what <= 2; what++) {
            add("narrowed" + what, x.narrowed(what));
        }
    }

    private void layer(int d) {
        int nodes = add("layer" + d, x.layer(d));
        for (int i = 0; i < nodes; i++) {
            String at = d + "," + i;
            for (int what = 0; what <= 4; what++) {
                add("node" + at + "," + what, x.node(d, i, what));
            }
            add("to" + at, x.ways(d, i, true));
            add("from" + at, x.ways(d, i, false));
            add("dominated" + at, x.dominated(d, i));
            int led = 0;
            for (int c = 0; led != Check.BAD; c++) {
                led = add("leads" + at + "," + c, x.leads(d, i, c));
            }
        }
    }

    private void told() {
        int steps = add("count0", x.count(0));
        for (int s = 0; s < steps; s++) {
            int before = 0;
            for (int c = 0; before != Check.BAD; c++) {
                before = add("cost" + s + "," + c, x.cost(s, c, 0));
                bars(s, c);
            }
        }
        add("resource0", x.resource(0, 0, 40));
        add("resource1", x.resource(1, 0, 40));
    }

    private void bars(int s, int a) {
        int before = 0;
        for (int b = 0; before != Check.BAD; b++) {
            before = add("bar" + s + "," + a + "," + b, x.bar(s, a, b, false));
        }
    }
}
