/**
 * The boundary cases of "Terms", sentence by sentence: REPLYs and what clients count, replicas that go
 * DOWN, two exceptions at once; and the 512 calls of an object.
 */
final class EdgesOfClientsTest {
    private static final int[] SIZES = {3, 5, 7};
    private static final String OPEN = "1 slot -1 view -1/-1 answer 0";

    public static void main(String[] args) {
        acceptedByFAndOne();
        acceptedWithTheLeader();
        openRequestsOnly();
        acceptedOnce();
        oneSlot();
        oneView();
        sixtyFourPlaces();
        sixtyFifthPlace();
        thePlaceThatCameFirst();
        forgottenPlacesCountFromNothing();
        placesOfTheNextRequest();
        downHoldsNothing();
        downCountsNothing();
        allElseStays();
        theFirstException();
        fiveHundredAndTwelveCalls();
        Check.end();
    }

    /** Replicas 0 to n - 1 have taken client 0's request; their REPLYs have the numbers n to 2n - 1. */
    private static Net taken(int n) {
        Net net = new Net(n).ask(0, Net.PUT, 0, 1);
        for (int r = 0; r < n; r++) {
            net.stamped(1, r);
        }
        return net;
    }

    private static void acceptedByFAndOne() {
        Check.says("when F + 1 have sent it, the leader of that view among them, the request is ACCEPTED");
        for (int n : SIZES) {
            Net first = taken(n);
            Net last = taken(n);
            for (int i = 0; i < n / 2; i++) {
                first.table.deliver(n + i);
                last.table.deliver(2 * n - 1 - i);
            }
            Check.due(n + ": F, the leader among them", first.client(0), OPEN);
            Check.due(n + ": F of them so far", first.table.about(6), 0);
            first.table.deliver(n + n / 2);
            Check.due(n + ": F + 1", first.client(0), "2 slot 1 view 0/1 answer 0");
            Check.due(n + ": F, the leader not among them", last.client(0), OPEN);
            last.table.deliver(n);
            Check.due(n + ": F + 1, the leader last", last.client(0), "2 slot 1 view 0/1 answer 0");
            Check.due(n + ": one is ACCEPTED", last.table.about(6), 1);
        }
    }

    private static void acceptedWithTheLeader() {
        Check.says("the leader of that view among them");
        for (int n : SIZES) {
            Net net = taken(n);
            for (int r = 1; r < n; r++) {
                net.table.deliver(n + r);
                Check.due(n + ": " + r + " without the leader", net.table.client(0, 1), 1);
            }
            net.table.deliver(n);
            Check.due(n + ": all", net.client(0), "2 slot 1 view 0/1 answer 0");
        }
    }

    private static void openRequestsOnly() {
        Check.says("REPLY, delivered to its client, whose request of that number is still open");
        Net net = new Net(3).ask(0, Net.ADD, 0, 5).again(0).stamped(1, 0, 1).deliver("REPLY", 0, 0).deliver("REPLY", 1, 0);
        Check.due("the first is accepted", net.client(0), "2 slot 1 view 0/1 answer 0");
        net.stamped(2, 0, 1).ask(0, Net.GET, 0, 0).loseAll("STAMPED");
        Check.due("REPLYs of the first once more", net.air(), "REPLY 0>0, REPLY 1>0");
        net.settle();
        Check.due("the second stays open", net.client(0), OPEN);
        net.again(0).settle();
        Check.due("number 3 was lost, so that it waits behind a NOTHING", net.log(0) + ", " + net.client(0),
            "0.1 0.1 - 0.2, 2 slot 4 view 0/1 answer 5");
    }

    private static void acceptedOnce() {
        Check.says("requests that were ACCEPTED (6)");
        Net net = taken(3);
        net.table.deliver(3);
        Check.due("none", net.table.about(6), 0);
        net.table.deliver(4);
        Check.due("one", net.table.about(6), 1);
        net.table.deliver(5);
        Check.due("with one REPLY more", net.table.about(6) + " " + net.client(0), "1 2 slot 1 view 0/1 answer 0");
    }

    private static void oneSlot() {
        Check.says("from how many replicas one of that view and slot came is counted");
        Net net = new Net(3).ask(0, Net.PUT, 0, 1).again(0).stamped(1, 0, 1).stamped(2, 0, 1);
        net.lose("REPLY", 1, 0).deliver("REPLY", 1, 0).deliver("REPLY", 0, 0);
        Check.due("the leader's of slot 1, the other one's of slot 2", net.client(0), OPEN);
        net.deliver("REPLY", 0, 0);
        Check.due("both of slot 2", net.client(0), "2 slot 2 view 0/1 answer 0");
    }

    /** Slot 1 is taken by 3 and 4 in view 0/1, and by 0 to 2 in view 1/1. */
    private static void oneView() {
        Check.says("one of that view and slot came");
        Net net = new Net(5).ask(0, Net.PUT, 0, 1).stamped(1, 3, 4).deliver("REPLY", 3, 0).deliver("REPLY", 4, 0);
        net.table.suspect(0);
        net.table.suspect(2);
        net.deliver("TURNED", 0, 1).deliver("TURNED", 2, 1).deliver("START", 1, 0).deliver("START", 1, 2);
        net.stamped(1, 1, 2);
        Check.due("the new view", net.state(1), "NORMAL 1/1 base 0 log 1 point 0 held 0 last 1/1 synced 0");
        net.deliver("REPLY", 1, 0).deliver("REPLY", 2, 0);
        Check.due("two of the old view, two of the new one", net.client(0), OPEN);
        net.stamped(1, 0).deliver("REPLY", 0, 0);
        Check.due("three of the new one", net.client(0), "2 slot 1 view 1/1 answer 0");
    }

    /** Client 0's request is taken in so many slots by replica 1, whose REPLYs are delivered: 4k is slot k + 1. */
    private static Net places(int places) {
        Net net = new Net(3).ask(0, Net.PUT, 0, 1);
        for (int k = 0; k < places; k++) {
            if (k > 0) {
                net.table.again(0);
            }
            net.table.deliver(4 * k + 1);
            net.table.deliver(4 * k + 3);
        }
        return net;
    }

    private static void sixtyFourPlaces() {
        Check.says("Of an open request 64 such places, a view and a slot, are counted");
        Net net = places(64);
        net.stamped(1, 0).table.deliver(256);
        Check.due("the first of 64", net.client(0), "2 slot 1 view 0/1 answer 0");
        Net last = places(64);
        for (int k = 0; k < 64; k++) {
            last.table.deliver(4 * k);
        }
        last.table.deliver(256 + 63);
        Check.due("the last of 64", last.client(0), "2 slot 64 view 0/1 answer 0");
    }

    private static void sixtyFifthPlace() {
        Check.says("with one more the one that came first is forgotten");
        Net net = places(65);
        net.stamped(1, 0).table.deliver(260);
        Check.due("the first of 65", net.client(0), OPEN);
        Net second = places(65);
        second.stamped(1, 0).table.deliver(4);
        second.table.deliver(261);
        Check.due("the second of 65", second.client(0), "2 slot 2 view 0/1 answer 0");
        Net last = places(65);
        for (int k = 0; k < 65; k++) {
            last.table.deliver(4 * k);
        }
        last.table.deliver(260 + 64);
        Check.due("the last of 65", last.client(0), "2 slot 65 view 0/1 answer 0");
    }

    private static void thePlaceThatCameFirst() {
        Check.says("the one that came first is forgotten");
        Net net = places(64);
        net.stamped(1, 2).table.deliver(256);
        net.table.again(0);
        Check.due("two of slot 1, but not the leader", net.table.client(0, 1), 1);
        net.table.deliver(258);
        net.table.deliver(260);
        net.stamped(1, 0).table.deliver(261);
        Check.due("the 65th place took that of slot 1, whatever came to it since", net.client(0), OPEN);
        net.table.deliver(4);
        net.table.deliver(262);
        Check.due("slot 2 was the first then, and gave way to slot 1", net.client(0), OPEN);
        net.table.deliver(8);
        net.table.deliver(12);
        net.table.deliver(264);
        Check.due("slot 4 is there still", net.client(0), "2 slot 4 view 0/1 answer 0");
    }

    private static void forgottenPlacesCountFromNothing() {
        Check.says("and counts from nothing if it comes again");
        Net net = places(65);
        net.stamped(1, 0, 2).table.deliver(260);
        Check.due("the leader's alone", net.client(0), OPEN);
        net.table.deliver(261);
        Check.due("and another one's", net.client(0), "2 slot 1 view 0/1 answer 0");
    }

    private static void placesOfTheNextRequest() {
        Check.says("Of an open request 64 such places");
        Net net = places(64);
        net.stamped(1, 0).table.deliver(256);
        net.ask(0, Net.GET, 0, 0);
        net.table.deliver(258);
        Check.due("the next request is open", net.client(0), OPEN);
        net.table.deliver(260);
        Check.due("replica 1 took it in slot 65", net.client(0), OPEN);
        for (int k = 1; k < 64; k++) {
            net.table.deliver(4 * k);
        }
        Check.due("the leader has 64", net.table.replica(0, 5), 64);
        net.table.deliver(257);
        Check.due("it takes that one", net.table.replica(0, 5), 65);
        net.table.deliver(net.table.message(net.table.about(0) - 1, 0));
        Check.due("it is accepted", net.client(0), "2 slot 65 view 0/1 answer 1");
    }

    private static void downHoldsNothing() {
        Check.says("A replica that goes DOWN holds and counts nothing any more");
        Net net = new Net(3).ask(0, Net.PUT, 0, 1);
        for (int k = 2; k <= 9; k++) {
            net.again(0).stamped(k, 1, 0);
        }
        Check.due("eight are HELD", net.table.replica(0, 7) * 10 + net.table.replica(1, 7), 88);
        net.table.down(1);
        Check.due("none", net.state(1), "NORMAL 0/1 base 0 log 0 point 0 held 0 last 0/1 synced 0");
        net.table.up(1);
        net.table.down(0);
        Check.due("of the leader none", net.state(0), "GAP 0/1 base 0 log 1 point 0 held 0 last 0/1 synced 0");
        net.table.up(0);
        net.loseAllBut(1).stamped(1, 1);
        Check.due("only the first is taken", net.log(1), "0.1");
        Check.due("and nothing is MISSING", net.air(), "REPLY 1>0");
    }

    private static void downCountsNothing() {
        Check.says("holds and counts nothing any more");
        Net gap = new Net(5).ask(0, Net.PUT, 0, 1).again(0).stamped(2, 0).deliver("GAP COMMIT", 0, 1).deliver("GAP COMMIT", 0, 2);
        gap.deliver("GAP COMMIT", 0, 3).deliver("GAP REPLY", 1, 0);
        gap.table.down(0);
        gap.table.up(0);
        gap.deliver("GAP REPLY", 2, 0);
        Check.due("the GAP REPLY before is not counted", gap.table.replica(0, 1), 1);
        gap.deliver("GAP REPLY", 3, 0);
        Check.due("two behind it are", gap.table.replica(0, 1), 0);

        Net turn = new Net(5).toView(2, 1, 1).toView(3, 1, 1).toView(4, 1, 1);
        for (int r = 2; r <= 4; r++) {
            turn.table.nudge(r);
        }
        turn.deliver("TURNED", 2, 1);
        turn.table.down(1);
        turn.table.up(1);
        turn.deliver("TURNED", 3, 1);
        Check.due("the TURNED before is not counted", turn.table.replica(1, 1), 2);
        turn.deliver("TURNED", 4, 1);
        Check.due("two behind it are", turn.table.replica(1, 1), 0);

        Net sync = new Net(5).ask(0, Net.PUT, 0, 1).stamped(1, 0, 1, 2, 3).loseAll();
        sync.table.sync(0);
        sync.deliver("SYNC", 0, 1).deliver("SYNC", 0, 2).deliver("SYNC", 0, 3).deliver("SYNC REPLY", 1, 0);
        sync.table.down(0);
        sync.table.up(0);
        sync.deliver("SYNC REPLY", 2, 0);
        Check.due("the SYNC REPLY before is not counted", sync.table.replica(0, 6), 0);
        sync.deliver("SYNC REPLY", 3, 0);
        Check.due("two behind it are", sync.table.replica(0, 6), 1);
    }

    private static void allElseStays() {
        Check.says("all else of it stays, also for when it is up again");
        Net net = new Net(3).grow(2);
        net.table.install();
        net.ask(0, Net.PUT, 0, 1).stamped(3, 0).settle();
        net.ask(1, Net.PUT, 0, 2).settle();
        net.table.sync(0);
        net.settle();
        String all = "NORMAL 0/2 base 2 log 4 point 4 held 0 last 0/2 synced 4";
        Check.due("before", net.state(1) + " " + net.log(1), all + " 0.1 1.1 - 1.2");
        net.table.down(1);
        Check.due("DOWN", net.state(1) + " " + net.log(1), all + " 0.1 1.1 - 1.2");
        Check.due("its words", net.table.word(1, 0), 2);
        net.table.up(1);
        Check.due("up again", net.state(1) + " " + net.log(1), all + " 0.1 1.1 - 1.2");
        net.table.suspect(1);
        net.table.down(1);
        net.table.up(1);
        Check.due("in CHANGE", net.state(1), "CHANGE 1/2 base 2 log 4 point 4 held 0 last 0/2 synced 0");
    }

    private static void theFirstException() {
        Check.says("Of two exceptions that hold the one that is told first is thrown.");
        Table t = new Net(3).table;
        t.request(0, 0, 0, 0);
        Check.raises("no client and no kind", IndexOutOfBoundsException.class, () -> t.request(4, 3, 0, 0));
        Check.raises("no key and no kind", IndexOutOfBoundsException.class, () -> t.request(1, 3, 8, 0));
        Check.raises("no key, and it is open", IndexOutOfBoundsException.class, () -> t.request(0, 0, 8, 0));
        Check.raises("no kind, and it is open", IllegalArgumentException.class, () -> t.request(0, 3, 0, 0));
        Check.raises("all three", IndexOutOfBoundsException.class, () -> t.request(0, -1, -1, 0));
        Check.raises("it is open alone", IllegalStateException.class, () -> t.request(0, 2, 7, 0));
    }

    private static void fiveHundredAndTwelveCalls() {
        Check.says("An object is used for at most 512 calls after it has been made");
        Table installs = new Net(3).table;
        int session = 0;
        for (int i = 0; i < Table.CALLS; i++) {
            session = installs.install();
        }
        Check.due("the 512th install", session, 513);
        Table suspects = new Net(7).table;
        for (int i = 0; i < Table.CALLS - 1; i++) {
            suspects.suspect(3);
        }
        Check.due("the lead after 511", suspects.replica(3, 2), 511);
        Table agains = new Net(3).table;
        agains.request(0, 0, 0, 0);
        for (int i = 0; i < Table.CALLS - 3; i++) {
            agains.again(0);
        }
        Check.due("COUNT after 510 stampings", agains.about(5), 510);
        Check.due("the messages", agains.about(1), 1530);
        Table flows = new Net(7).table;
        for (int i = 0; i < Table.CALLS - 1; i++) {
            flows.suspect(i % 7);
        }
        Check.due("the 512th call, a flow", flows.flow(40), 40);
    }
}
