import com.sun.management.ThreadMXBean;
import java.lang.management.ManagementFactory;

/** All calls of a run live in one room: what is made is made with the object, and calls make nothing. */
public final class RoomTest {
    private static final ThreadMXBean THREADS = (ThreadMXBean) ManagementFactory.getThreadMXBean();
    private static long sum = 0;

    private RoomTest() {
    }

    public static void main(String[] args) {
        // The first runs load classes, which is not the program's doing.
        for (int n = 0; n < 3; n++) {
            wholeRun(new SaidAlready());
        }
        long before = made();
        SaidAlready x = new SaidAlready();
        long atFirst = made() - before;
        before = made();
        wholeRun(x);
        long byCalls = made() - before;
        System.out.println("bytes: " + atFirst + " by a new object, " + byCalls + " by its calls");
        Due.holds("a new object is small", atFirst < 64 * 1024);
        Due.holds("calls make nothing", byCalls < 4 * 1024);
        Due.holds("the run was made", sum != 0);
        Due.end();
    }

    private static long made() {
        return THREADS.getThreadAllocatedBytes(Thread.currentThread().getId());
    }

    private static void say(SaidAlready x, int first, int n, int step) {
        for (int i = 0; i < n; i++) {
            sum += x.say(first + (i * step) % 16);
        }
    }

    private static void wholeRun(SaidAlready x) {
        for (int pair = 0; pair < 12; pair++) {
            say(x, 'a', 12, 1 + pair % 5);
            sum += x.say('=');
            say(x, 'A', 4, pair);
            sum += x.keep(pair - 1);
        }
        for (int sentence = 0; sentence < 10; sentence++) {
            say(x, 'a', 12, 1 + sentence % 7);
            sum += x.write();
        }
        for (int n = 0; n < 12; n++) {
            sum += x.length(0, 5 + n) + x.length(1, 20 - n);
        }
        for (int n = -3; n < 10; n++) {
            sum += x.order(n) + x.laid(n) + x.kept() + x.wrongs() + x.learnt(n) + x.goes(n, n, 0);
            sum += x.price(n) + x.found(n, 0) + x.filled(n, 0) + x.match(n, n) + x.far(n, 0);
            sum += x.clash() + x.told(n) + x.fault(1) + x.pair(n, 100) + x.must(n, n) + x.rate(n, n);
            sum += x.otherwise(n, n, n + 1) + x.image(n & 1) + x.restore(n & 1);
        }
        sum += x.lengths() + x.wipe();
    }
}
