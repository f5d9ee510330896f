import com.sun.management.ThreadMXBean;
import java.lang.management.ManagementFactory;

/** All calls of one run share one room: what is made is made once. */
public final class RoomTest {
    private static final Check check = new Check();
    private static final ThreadMXBean threads = (ThreadMXBean) ManagementFactory.getThreadMXBean();

    public static void main(String[] args) {
        made();
        newObjects();
        StateTables x = full();
        dearestCalls(x);
        check.end();
    }

    private static long made() {
        return threads.getThreadAllocatedBytes(Thread.currentThread().getId());
    }

    private static void newObjects() {
        new StateTables();
        long before = made();
        StateTables x = null;
        for (int i = 0; i < 100; i++) {
            x = new StateTables();
        }
        long each = (made() - before) / 100;
        check.due("a new object has no steps", x.count(0), 0);
        check.due("a new object takes " + each + " bytes", each < 16000);
    }

    /** Some 300 nodes a layer. */
    private static StateTables full() {
        StateTables x = new StateTables();
        for (int s = 0; s < 12; s++) {
            x.step();
            for (int c = 0; c < 6; c++) {
                x.choice(s, (7 * s + 5 * c) % 11 - 5, c, s % 3 == 0 ? 0 : c % 3);
            }
        }
        x.resource(0, 0, 14);
        x.resource(1, 0, 3);
        return x;
    }

    private static void dearestCalls(StateTables x) {
        long before = made();
        check.due("many nodes", x.run() > 2000);
        long first = made() - before;
        check.due("the first run takes " + first + " bytes", first < 1000000);
        before = made();
        for (int i = 0; i < 256; i++) {
            x.cost(0, 0, i);
            x.run();
            x.narrow(60, i % 2 == 0);
            x.dominated(8, i % 50);
            x.plan(i % 20, i % 12);
        }
        long later = made() - before;
        check.due("later calls take " + later + " bytes in all", later < 10000);
    }
}
