/** Each refused call, with what it throws; and that nothing is changed by it, neither at once nor for later. */
final class RefusedTest {
    private static final int MIN = Integer.MIN_VALUE;
    private static final int MAX = Integer.MAX_VALUE;
    private static final Class<IndexOutOfBoundsException> OUTSIDE = IndexOutOfBoundsException.class;
    private static final Class<IllegalArgumentException> BAD = IllegalArgumentException.class;
    private static final Class<IllegalStateException> STATE = IllegalStateException.class;

    private interface Way {
        void go(Net net);
    }

    public static void main(String[] args) {
        for (int n = 3; n <= 7; n += 2) {
            changesNothing(n, "in a new object", net -> { }, RefusedTest::refuseInANewObject, RefusedTest::someCalls);
            changesNothing(n, "for all arguments", RefusedTest::someCalls, RefusedTest::refuseOutside, RefusedTest::someCalls);
        }
        changesNothing(5, "in GAP", RefusedTest::gap, RefusedTest::refuseInGap, RefusedTest::afterGap);
        changesNothing(5, "in CHANGE", RefusedTest::change, RefusedTest::refuseInChange, RefusedTest::afterChange);
        changesNothing(3, "in a full air", RefusedTest::fullAir, RefusedTest::refuseInAFullAir, RefusedTest::afterFullAir);
        Check.end();
    }

    /** Two objects that go the same way, but for the refused calls of one of them, tell the same, then and later. */
    private static void changesNothing(int n, String what, Way before, Way refused, Way after) {
        Net one = new Net(n);
        Net other = new Net(n);
        before.go(one);
        before.go(other);
        refused.go(other);
        Check.due(n + " replicas, " + what, other.everything(), one.everything());
        Net later = new Net(n);
        Net otherLater = new Net(n);
        before.go(later);
        before.go(otherLater);
        refused.go(otherLater);
        after.go(later);
        after.go(otherLater);
        Check.due(n + " replicas, " + what + ", and then more", otherLater.everything(), later.everything());
    }

    private static void someCalls(Net net) {
        Table t = net.table;
        for (int c = 0; c < 4; c++) {
            if (t.client(c, 1) != 1) {
                t.request(c, Net.ADD, c, 5);
            }
        }
        t.flow(7);
        t.lose(t.message(1, 0));
        t.flow(3);
    }

    private static void refuseInANewObject(Net net) {
        Table t = net.table;
        for (int c = 0; c < 4; c++) {
            int client = c;
            Check.raises("again of one that had none", STATE, () -> t.again(client));
        }
        Check.raises("deliver of none", BAD, () -> t.deliver(0));
        Check.raises("lose of none", BAD, () -> t.lose(0));
        for (int r = 0; r < net.size; r++) {
            int replica = r;
            Check.raises("up of one that is not DOWN", STATE, () -> t.up(replica));
            if (r > 0) {
                Check.raises("sync of one that does not lead", STATE, () -> t.sync(replica));
            }
        }
        refuseOutside(net);
    }

    private static void refuseOutside(Net net) {
        Table t = net.table;
        for (int none : new int[] {-1, 4, MIN, MAX}) {
            Check.raises("request, client " + none, OUTSIDE, () -> t.request(none, 0, 0, 0));
            Check.raises("again, client " + none, OUTSIDE, () -> t.again(none));
        }
        for (int none : new int[] {-1, 8, MIN, MAX}) {
            Check.raises("request, key " + none, OUTSIDE, () -> t.request(0, 0, none, 0));
        }
        for (int none : new int[] {-1, 3, MIN, MAX}) {
            Check.raises("request, kind " + none, BAD, () -> t.request(0, none, 0, 0));
        }
        for (int none : new int[] {-1, 500, MIN, MAX}) {
            Check.raises("deliver, message " + none, BAD, () -> t.deliver(none));
            Check.raises("lose, message " + none, BAD, () -> t.lose(none));
        }
        for (int none : new int[] {-1, 41, MIN, MAX}) {
            Check.raises("flow(" + none + ")", BAD, () -> t.flow(none));
        }
        for (int none : new int[] {-1, net.size, MIN, MAX}) {
            Check.raises("down, replica " + none, OUTSIDE, () -> t.down(none));
            Check.raises("up, replica " + none, OUTSIDE, () -> t.up(none));
            Check.raises("suspect, replica " + none, OUTSIDE, () -> t.suspect(none));
            Check.raises("nudge, replica " + none, OUTSIDE, () -> t.nudge(none));
            Check.raises("sync, replica " + none, OUTSIDE, () -> t.sync(none));
        }
    }

    /**
     * The leader is in GAP, holds one and has counted one GAP REPLY and one SYNC REPLY; replica 1 is SYNCED,
     * 2 holds one; 3 and 4 are DOWN; client 0's request is accepted, those of 1 and 2 are open.
     */
    private static void gap(Net net) {
        net.ask(0, Net.PUT, 0, 1).settle();
        net.table.sync(0);
        net.deliver("SYNC", 0, 1).deliver("SYNC", 0, 2).deliver("SYNC REPLY", 1, 0).loseAll("SYNC");
        net.ask(1, Net.PUT, 0, 2).ask(2, Net.PUT, 0, 3).stamped(3, 0, 2);
        net.deliver("GAP COMMIT", 0, 1).deliver("GAP COMMIT", 0, 2).deliver("GAP REPLY", 1, 0).again(2);
        net.stamped(4, 1);
        net.table.down(3);
        net.table.down(4);
    }

    private static void refuseInGap(Net net) {
        Table t = net.table;
        Check.raises("request, one is open", STATE, () -> t.request(1, 0, 0, 0));
        Check.raises("request, one is open, no kind", BAD, () -> t.request(2, 3, 0, 0));
        Check.raises("request, one is open, no key", OUTSIDE, () -> t.request(2, 3, 8, 0));
        Check.raises("again, it is accepted", STATE, () -> t.again(0));
        Check.raises("again, it had none", STATE, () -> t.again(3));
        Check.raises("deliver, it is delivered", BAD, () -> t.deliver(0));
        Check.raises("lose, it is delivered", BAD, () -> t.lose(0));
        Check.raises("down, it is DOWN", STATE, () -> t.down(3));
        Check.raises("down, F are", STATE, () -> t.down(0));
        Check.raises("down, F are", STATE, () -> t.down(2));
        Check.raises("up, it is not DOWN", STATE, () -> t.up(0));
        Check.raises("suspect, it is DOWN", STATE, () -> t.suspect(4));
        Check.raises("nudge, it is DOWN", STATE, () -> t.nudge(4));
        Check.raises("sync, it is DOWN", STATE, () -> t.sync(3));
        Check.raises("sync, it does not lead", STATE, () -> t.sync(1));
        Check.raises("sync, it is in GAP", STATE, () -> t.sync(0));
    }

    private static void afterGap(Net net) {
        net.deliver("SYNC REPLY", 2, 0).deliver("GAP REPLY", 2, 0);
        net.table.up(3);
        net.settle();
    }

    /** Replica 1 leads its view, is in CHANGE and has counted one TURNED; 4 is DOWN. */
    private static void change(Net net) {
        net.ask(0, Net.PUT, 0, 1).settle();
        net.table.suspect(2);
        net.table.suspect(3);
        net.deliver("TURNED", 2, 1);
        net.table.down(4);
        net.table.fail();
        net.ask(1, Net.PUT, 0, 2);
    }

    private static void refuseInChange(Net net) {
        Table t = net.table;
        Check.raises("sync, it is in CHANGE", STATE, () -> t.sync(1));
        Check.raises("sync, it leads no more", STATE, () -> t.sync(2));
        Check.raises("down, it is DOWN", STATE, () -> t.down(4));
        Check.raises("up, it is not DOWN", STATE, () -> t.up(1));
        Check.raises("suspect, it is DOWN", STATE, () -> t.suspect(4));
        Check.raises("nudge, it is DOWN", STATE, () -> t.nudge(4));
        Check.raises("request, one is open", STATE, () -> t.request(1, 0, 0, 0));
        Check.raises("again, it is accepted", STATE, () -> t.again(0));
        Check.raises("flow", BAD, () -> t.flow(41));
    }

    private static void afterChange(Net net) {
        net.deliver("TURNED", 3, 1).table.install();
        net.again(1).settle();
    }

    private static void fullAir(Net net) {
        net.ask(0, Net.PUT, 0, 1);
        for (int i = 0; i < 66; i++) {
            net.table.again(0);
        }
    }

    private static void refuseInAFullAir(Net net) {
        Table t = net.table;
        Check.raises("deliver, it was lost at once", BAD, () -> t.deliver(200));
        Check.raises("lose, it was lost at once", BAD, () -> t.lose(200));
        Check.raises("request, one is open", STATE, () -> t.request(0, 0, 0, 0));
        Check.raises("flow", BAD, () -> t.flow(-1));
        Check.raises("sync", STATE, () -> t.sync(1));
        Check.raises("nudge", OUTSIDE, () -> t.nudge(3));
    }

    private static void afterFullAir(Net net) {
        net.table.lose(7);
        net.table.again(0);
    }
}
