import java.lang.management.ManagementFactory;

/**
 * All calls of one run live in one room, some 7.3 million fields and elements in all: what an object and
 * its calls make is to be far below that.
 */
final class RoomTest {
    private static final com.sun.management.ThreadMXBean THREADS =
        (com.sun.management.ThreadMXBean) ManagementFactory.getThreadMXBean();
    // A fifth of the room, if each field or element has four bytes.
    private static final long MOST_BYTES = 7_300_000L * 4 / 5;

    private interface Way {
        void call(OrderedTable t, int i);
    }

    public static void main(String[] args) {
        most("a new object", 1, (t, i) -> new OrderedTable(2));
        most("requests", 256, RoomTest::requestOrFlow);
        most("long logs sent", 100, (t, i) -> {
            again(t);
            t.flow(40);
            if (t.replica(0, 1) == 0) {
                t.sync(0);
            }
        });
        most("views", 256, (t, i) -> {
            t.suspect(i % 7);
            t.flow(40);
        });
        most("sessions", 128, (t, i) -> {
            t.install();
            again(t);
            t.flow(40);
        });
        most("questions", 100, (t, i) -> {
            t.broken();
            t.word(i % 7, i % 8);
            t.entry(i % 7, 1, 5);
            t.client(0, 3);
            t.message(0, 3);
        });
        Check.end();
    }

    private static void again(OrderedTable t) {
        if (t.client(0, 1) != 1) {
            t.request(0, 2, 0, 1);
        } else {
            t.again(0);
        }
    }

    private static void requestOrFlow(OrderedTable t, int i) {
        if (t.client(i % 4, 1) == 1) {
            t.flow(40);
        } else {
            t.request(i % 4, 2, i % 8, i);
        }
    }

    /** So many times a way of up to five calls: at most 512 calls in all. */
    private static void most(String what, int times, Way way) {
        OrderedTable t = new OrderedTable(2);
        way.call(new OrderedTable(2), 0);
        long before = THREADS.getThreadAllocatedBytes(Thread.currentThread().getId());
        for (int i = 0; i < times; i++) {
            way.call(t, i);
        }
        long made = THREADS.getThreadAllocatedBytes(Thread.currentThread().getId()) - before;
        System.out.println(what + ": " + made + " bytes");
        Check.due(what + " makes at most " + MOST_BYTES + " bytes", made <= MOST_BYTES ? 1 : made, 1);
    }
}
