/** Promises 12 to 16: layers, their nodes, and how they lie to each other. */
public final class LayersTest {
    private static final int LOWEST = Integer.MIN_VALUE;
    private static final int HIGHEST = Integer.MAX_VALUE;
    private static final Check check = new Check();

    public static void main(String[] args) {
        sizes();
        nodesInOrder();
        toAndFrom();
        alikeRowsAreOneNode();
        dominated();
        dominatedWithLeast();
        leads();
        wrongInputs();
        check.end();
    }

    /** Layer 1: (1, 0) by 0, (1, 0) by 1, (0, 2) by 2; step 1 adds (0, 2) or (1, 0). */
    private static StateTables example() {
        StateTables x = new StateTables();
        x.step();
        x.step();
        x.choice(0, 4, 1, 0);
        x.choice(0, 6, 1, 0);
        x.choice(0, -2, 0, 2);
        x.choice(1, 10, 0, 2);
        x.choice(1, 20, 1, 0);
        x.run();
        return x;
    }

    private static void sizes() {
        StateTables x = example();
        check.due("layer(0)", x.layer(0), 1);
        check.due("layer(1)", x.layer(1), 3);
        check.due("layer(2)", x.layer(2), 4);
        StateTables y = new StateTables();
        y.step();
        y.step();
        y.choice(1, 0, 0, 0);
        y.run();
        check.due("layer behind a step without choices", y.layer(1), 0);
        check.due("layer behind that", y.layer(2), 0);
        check.due("no node there", y.node(1, 0, 0), Check.BAD);
    }

    private static void dueNode(StateTables x, int d, int i, int... want) {
        for (int what = 0; what < want.length; what++) {
            check.due("node(" + d + ", " + i + ", " + what + ")", x.node(d, i, what), want[what]);
        }
    }

    private static void nodesInOrder() {
        StateTables x = example();
        dueNode(x, 0, 0, 0, 0, -1, 0, 8);
        dueNode(x, 1, 0, 0, 2, 2, -2, 10);
        dueNode(x, 1, 1, 1, 0, 0, 4, 10);
        dueNode(x, 1, 2, 1, 0, 1, 6, 10);
        dueNode(x, 2, 0, 0, 4, 0, 8, 0);
        dueNode(x, 2, 1, 1, 2, 0, 14, 0);
        dueNode(x, 2, 2, 1, 2, 1, 18, 0);
        dueNode(x, 2, 3, 2, 0, 1, 24, 0);
    }

    private static void toAndFrom() {
        StateTables x = example();
        x.resource(0, 1, 1);
        x.bar(0, 1, 0, true);
        x.run();
        check.due("ways to the first", x.ways(0, 0, true), 1);
        check.due("ways from the first", x.ways(0, 0, false), 2);
        dueNode(x, 1, 0, 0, 2, 2, -2, 20);
        dueNode(x, 1, 1, 1, 0, 0, 4, 10);
        dueNode(x, 1, 2, 1, 0, 1, 6, Check.NONE);
        check.due("ways from a dead end", x.ways(1, 2, false), 0);
        check.due("ways to a dead end", x.ways(1, 2, true), 1);
        dueNode(x, 2, 0, 0, 4, 0, 8, Check.NONE);
        check.due("ways from one below the least", x.ways(2, 0, false), 0);
        check.due("ways from one of the last", x.ways(2, 1, false), 1);
    }

    private static void alikeRowsAreOneNode() {
        StateTables x = example();
        check.due("ways to (1, 2) by 0", x.ways(2, 1, true), 2);
        check.due("ways to (1, 2) by 1", x.ways(2, 2, true), 1);
        check.due("ways to (2, 0) by 1", x.ways(2, 3, true), 2);
        StateTables y = new StateTables();
        for (int s = 0; s < 12; s++) {
            y.step();
            for (int c = 0; c < 6; c++) {
                y.choice(s, s - c, 0, 0);
            }
        }
        y.run();
        check.due("ways to one of the last", y.ways(12, 5, true), 362797056L);
        check.due("ways from one of layer 1", y.ways(1, 0, false), 362797056L);
        check.due("ways from the first", y.ways(0, 0, false), 2176782336L);
    }

    /** Layer 2, all by choice 0: the sums of two uses, with costs that fall or rise. */
    private static StateTables grid() {
        StateTables x = new StateTables();
        x.step();
        x.step();
        x.choice(0, 5, 0, 0);
        x.choice(0, 5, 0, 1);
        x.choice(0, 4, 1, 0);
        x.choice(0, 6, 1, 2);
        x.choice(0, 4, 2, 2);
        x.choice(1, 0, 0, 0);
        x.choice(1, 0, 3, 3);
        return x;
    }

    private static void dueDominated(StateTables x, String when, int... want) {
        for (int i = 0; i < want.length; i++) {
            check.due(when + ": dominated(2, " + i + ")", x.dominated(2, i), want[i]);
        }
    }

    private static void dominated() {
        StateTables x = grid();
        x.run();
        // (0,0) 5, (0,1) 5, (1,0) 4, (1,2) 6, (2,2) 4 by choice 0, then the same by choice 1
        dueDominated(x, "grid", Check.NONE, 0, Check.NONE, 0, 2, Check.NONE, 5, Check.NONE, 5, 7);
        check.due("other last choices do not dominate", x.dominated(1, 1), Check.NONE);
        check.due("the first node", x.dominated(0, 0), Check.NONE);
    }

    private static void dominatedWithLeast() {
        StateTables x = grid();
        x.resource(0, 1, 40);
        x.run();
        dueDominated(x, "least of the first", Check.NONE, 0, Check.NONE, 2, Check.NONE);
        x.resource(0, 0, 40);
        x.resource(1, 1, 40);
        x.run();
        dueDominated(x, "least of the second", Check.NONE, Check.NONE, Check.NONE, Check.NONE, Check.NONE);
        x.cost(0, 4, 7);
        x.run();
        dueDominated(x, "least of the second, dearer", Check.NONE, Check.NONE, Check.NONE, Check.NONE, 3);
        x.resource(0, 1, 40);
        x.run();
        dueDominated(x, "least of both", Check.NONE, Check.NONE, Check.NONE, Check.NONE, Check.NONE);
    }

    private static void leads() {
        StateTables x = example();
        check.due("leads(0, 0, 0)", x.leads(0, 0, 0), 1);
        check.due("leads(0, 0, 1)", x.leads(0, 0, 1), 2);
        check.due("leads(0, 0, 2)", x.leads(0, 0, 2), 0);
        check.due("leads(1, 0, 0)", x.leads(1, 0, 0), 0);
        check.due("leads(1, 0, 1)", x.leads(1, 0, 1), 2);
        check.due("leads(1, 1, 0)", x.leads(1, 1, 0), 1);
        check.due("leads(1, 2, 0)", x.leads(1, 2, 0), 1);
        check.due("leads(1, 2, 1)", x.leads(1, 2, 1), 3);
        x.bar(0, 1, 1, true);
        x.resource(1, 0, 3);
        x.run();
        check.due("leads: barred", x.leads(1, 2, 1), Check.NONE);
        check.due("leads: not barred", x.leads(1, 1, 1), 2);
        check.due("leads: above a most", x.leads(1, 0, 0), Check.NONE);
    }

    private static void wrongInputs() {
        StateTables x = example();
        for (int d : new int[] {-1, 3, 13, LOWEST, HIGHEST}) {
            check.due("layer(" + d + ")", x.layer(d), Check.BAD);
            check.due("node of layer " + d, x.node(d, 0, 0), Check.BAD);
            check.due("ways of layer " + d, x.ways(d, 0, true), Check.BAD);
            check.due("dominated of layer " + d, x.dominated(d, 0), Check.BAD);
            check.due("leads of layer " + d, x.leads(d, 0, 0), Check.BAD);
        }
        for (int i : new int[] {-1, 3, 400, LOWEST, HIGHEST}) {
            check.due("node " + i, x.node(1, i, 0), Check.BAD);
            check.due("ways " + i, x.ways(1, i, false), Check.BAD);
            check.due("dominated " + i, x.dominated(1, i), Check.BAD);
            check.due("leads " + i, x.leads(1, i, 0), Check.BAD);
        }
        for (int what : new int[] {-1, 5, LOWEST, HIGHEST}) {
            check.due("node, what " + what, x.node(1, 0, what), Check.BAD);
        }
        for (int c : new int[] {-1, 2, 5, LOWEST, HIGHEST}) {
            check.due("leads by " + c, x.leads(1, 0, c), Check.BAD);
        }
        check.due("leads from the last layer", x.leads(2, 0, 0), Check.BAD);
    }
}
