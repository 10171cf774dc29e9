import java.lang.management.ManagementFactory;

/** All calls of one run live in one room: an object is made once, and its calls make next to nothing. */
final class RoomTest {
    private static final com.sun.management.ThreadMXBean THREADS =
        (com.sun.management.ThreadMXBean) ManagementFactory.getThreadMXBean();
    private static final int CALLS = 512;

    private interface Way {
        void call(OrderedTable t, int i);
    }

    public static void main(String[] args) {
        most("a new object", 400_000, 1, (t, i) -> new OrderedTable(2));
        most("requests", 200_000, CALLS, RoomTest::requestOrFlow);
        most("long logs sent", 100_000, CALLS, (t, i) -> {
            again(t);
            t.flow(40);
            if (t.replica(0, 1) == 0) {
                t.sync(0);
            }
        });
        most("views", 1_000_000, CALLS, (t, i) -> {
            t.suspect(i % 7);
            t.flow(40);
        });
        most("sessions", 1_000_000, CALLS, (t, i) -> {
            t.install();
            again(t);
            t.flow(40);
        });
        most("questions", 10_000, CALLS, (t, i) -> {
            t.broken();
            t.word(i % 7, i % 8);
            t.entry(i % 7, 1, 5);
            t.client(0, 3);
            t.message(0, 3);
        });
        Check.end();
    }

    private static void again(OrderedTable t) {
        if (t.client(0, 1) != 1) {
            t.request(0, 2, 0, 1);
        } else {
            t.again(0);
        }
    }

    private static void requestOrFlow(OrderedTable t, int i) {
        if (t.client(i % 4, 1) == 1) {
            t.flow(40);
        } else {
            t.request(i % 4, 2, i % 8, i);
        }
    }

    private static void most(String what, long bytes, int calls, Way way) {
        OrderedTable t = new OrderedTable(2);
        way.call(new OrderedTable(2), 0);
        long before = THREADS.getThreadAllocatedBytes(Thread.currentThread().getId());
        for (int i = 0; i < calls; i++) {
            way.call(t, i);
        }
        long made = THREADS.getThreadAllocatedBytes(Thread.currentThread().getId()) - before;
        System.out.println(what + ": " + made + " bytes");
        Check.due(what + " makes at most " + bytes + " bytes", made <= bytes ? 1 : made, 1);
    }
}
