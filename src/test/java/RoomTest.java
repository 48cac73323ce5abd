import com.sun.management.ThreadMXBean;
import java.lang.management.ManagementFactory;

/**
 * All calls of a run live in one room of 7.3 million fields and elements: 512 of the dearest call, or
 * 512 new objects, must find room in it.
 */
public final class RoomTest extends Given {
    private static final ThreadMXBean THREADS = (ThreadMXBean) ManagementFactory.getThreadMXBean();
    private static final long CALLS = 512;
    // An element takes a byte at least, but the rows that are large hold numbers of four.
    private static final long ROOM = 7_300_000L * 4;
    private static SaidAlready made;
    private static long sum = 0;

    private RoomTest() {
    }

    public static void main(String[] args) {
        fits("a new object", x -> {
            made = new SaidAlready();
            return 1;
        });
        fits("say", x -> x.say('a'));
        fits("fault", x -> x.fault(1));
        fits("keep", x -> x.keep(-1));
        fits("write", x -> x.write());
        fits("pair", x -> x.pair(11, 100));
        fits("far", x -> x.far(0, 9));
        fits("match", x -> x.match(9, 11));
        fits("found", x -> x.found(9, 0));
        fits("filled", x -> x.filled(9, 0));
        fits("rate", x -> x.rate(0, 3));
        fits("price", x -> x.price(-1));
        fits("order", x -> x.order(-1));
        fits("order of one", x -> x.order(9));
        fits("kept", x -> x.kept());
        fits("must", x -> x.must(3, 3));
        fits("wrongs", x -> x.wrongs());
        fits("goes", x -> x.goes(0, 0, 1));
        fits("learnt", x -> x.learnt(0));
        fits("otherwise", x -> x.otherwise(0, 0, 1));
        fits("clash", x -> x.clash());
        fits("length", x -> x.length(0, 3));
        fits("laid", x -> x.laid(-1));
        fits("laid of one", x -> x.laid(5));
        fits("image", x -> x.image(0));
        fits("restore", x -> x.restore(1));
        fits("told", x -> x.told(1));
        fits("lengths", x -> x.lengths());
        fits("wipe", x -> x.wipe());
        Due.holds("the calls were made", sum != 0 && made.told(0) == 0);
        Due.end();
    }

    private static void fits(String call, Ask ask) {
        // The first calls load classes, which is not the program's doing.
        for (int n = 0; n < 3; n++) {
            sum += ask.of(full());
        }
        SaidAlready x = full();
        long before = THREADS.getThreadAllocatedBytes(Thread.currentThread().getId());
        sum += ask.of(x);
        long bytes = THREADS.getThreadAllocatedBytes(Thread.currentThread().getId()) - before;
        if (bytes > 0) {
            System.out.println(call + " makes " + bytes + " bytes");
        }
        Due.holds(CALLS + " times " + call + ", " + bytes + " bytes each, has room", bytes * CALLS <= ROOM);
    }

    private static SaidAlready full() {
        SaidAlready x = RefusalBoundaries.full();
        x.wipe();
        return x;
    }
}
