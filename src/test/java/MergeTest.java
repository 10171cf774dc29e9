/** How a leader MERGES: whose logs are looked at, what comes of them, and BASE. */
final class MergeTest {
    private static final int SEQ = Net.SEQUENCER;

    public static void main(String[] args) {
        nothingWins();
        nothingWinsWhereItHasNone();
        theLongestCounts();
        anOlderViewDoesNotCount();
        itsOwnDoesNotCountIfOlder();
        anEarlierLeadDoesNotCount();
        baseOfAnotherSession();
        mergesWithF();
        Check.end();
    }

    /** Replica 1 has a request where replica 2 has a NOTHING; replica 0 is in GAP. */
    private static Net requestAndNothing() {
        Net net = new Net(3);
        net.ask(0, Net.PUT, 0, 1).ask(1, Net.PUT, 0, 2);
        net.deliver("STAMPED", SEQ, 1).deliver("STAMPED", SEQ, 1);
        net.lose("STAMPED", SEQ, 0).deliver("STAMPED", SEQ, 0).deliver("GAP COMMIT", 0, 2);
        return net.loseAll();
    }

    private static void nothingWins() {
        Net own = requestAndNothing();
        Check.due("before", own.log(1) + ", " + own.log(2), "0.1 1.1, -");
        own.table.suspect(2);
        own.deliver("TURNED", 2, 1);
        Check.due("another one's NOTHING", own.log(1), "- 1.1");
        Net others = requestAndNothing();
        others.table.suspect(1);
        others.table.suspect(1);
        others.deliver("TURNED", 1, 2);
        Check.due("its own NOTHING", others.log(2), "- 1.1");
    }

    private static void nothingWinsWhereItHasNone() {
        for (int lead = 1; lead < 5; lead += 3) {
            Net net = new Net(5);
            net.ask(0, Net.PUT, 0, 1).ask(1, Net.PUT, 0, 2);
            net.lose("STAMPED", SEQ, 0).deliver("STAMPED", SEQ, 0);
            net.deliver("GAP COMMIT", 0, 2).deliver("STAMPED", SEQ, 3).deliver("STAMPED", SEQ, 3).loseAll();
            for (int i = 0; i < lead; i++) {
                net.table.suspect(3);
                net.table.suspect(2);
            }
            net.loseAll("TURN").deliver("TURNED", 2, lead).deliver("TURNED", 3, lead);
            Check.due("a NOTHING of 2, a request of 3", net.log(lead), "- 1.1");
        }
        Net net = new Net(5);
        net.ask(0, Net.PUT, 0, 1).ask(1, Net.PUT, 0, 2);
        net.deliver("STAMPED", SEQ, 0).deliver("STAMPED", SEQ, 0).deliver("STAMPED", SEQ, 3).loseAll();
        net.table.suspect(0);
        net.table.suspect(3);
        net.loseAll("TURN").deliver("TURNED", 0, 1).deliver("TURNED", 3, 1);
        Check.due("replica 0 has the longest", net.log(1), "0.1 1.1");
    }

    private static void theLongestCounts() {
        Net net = new Net(5);
        net.ask(0, Net.PUT, 0, 1).ask(1, Net.PUT, 0, 2).ask(2, Net.PUT, 0, 3);
        net.deliver("STAMPED", SEQ, 1);
        for (int i = 0; i < 2; i++) {
            net.deliver("STAMPED", SEQ, 3);
        }
        for (int i = 0; i < 3; i++) {
            net.deliver("STAMPED", SEQ, 4);
        }
        net.loseAll();
        net.table.suspect(4);
        net.table.suspect(3);
        net.deliver("TURNED", 4, 1);
        Check.due("one other is not F", net.state(1), "CHANGE 1/1 base 0 log 1 point 0 held 0 last 0/1 synced 0");
        net.loseAll("TURN").deliver("TURNED", 3, 1);
        Check.due("as long as the longest", net.log(1), "0.1 1.1 2.1");
        Check.due("NORMAL, BASE is theirs", net.state(1), "NORMAL 1/1 base 0 log 3 point 0 held 0 last 1/1 synced 0");
        Check.due("START to all others, no REPLY", net.air(), "START 1>0, START 1>2, START 1>3, START 1>4");
        net.settle();
        for (int r = 0; r < 5; r++) {
            Check.due("all have it", net.log(r) + " " + net.table.replica(r, 8), "0.1 1.1 2.1 1");
        }
    }

    /**
     * Replicas 0 to 3 are in session 2 with BASE 1 and the log 0.1 - 3.1, replica 4 is in session 1
     * with the log 0.1 1.1 2.1; replica 2 has a POINT of 1.
     */
    private static Net aSessionThatOneMissed() {
        Net net = new Net(5);
        net.ask(0, Net.PUT, 0, 1).stamped(1, 0, 1, 2, 3, 4).loseAll();
        net.table.sync(0);
        net.deliver("SYNC", 0, 2).deliver("SYNC", 0, 1).deliver("SYNC REPLY", 1, 0).deliver("SYNC REPLY", 2, 0);
        net.deliver("POINT", 0, 2).loseAll();
        net.ask(1, Net.PUT, 0, 2).ask(2, Net.PUT, 0, 3).stamped(2, 4).stamped(3, 4).loseAll();
        net.table.install();
        net.ask(3, Net.PUT, 0, 4).stamped(4, 0, 1, 2, 3);
        net.deliver("TURNED", 1, 0).deliver("TURNED", 2, 0);
        for (int r = 1; r < 4; r++) {
            net.deliver("START", 0, r);
        }
        net.loseAll().again(3).stamped(5, 0);
        for (int r = 1; r < 4; r++) {
            net.deliver("GAP COMMIT", 0, r).deliver("GAP REPLY", r, 0).stamped(5, r);
        }
        return net.loseAll();
    }

    private static void anOlderViewDoesNotCount() {
        Net net = aSessionThatOneMissed();
        Check.due("before", net.log(1) + ", " + net.log(4), "0.1 - 3.1, 0.1 1.1 2.1");
        Check.due("in session 2", net.state(1), "NORMAL 0/2 base 1 log 3 point 0 held 0 last 0/2 synced 0");
        net.table.suspect(4);
        net.table.suspect(2);
        net.deliver("TURN", 2, 4).deliver("TURNED", 2, 1);
        net.lose("TURNED", 4, 1).deliver("TURNED", 4, 1);
        Check.due("what an older view left does not count", net.log(1), "0.1 - 3.1");
        Check.due("BASE is its own", net.state(1), "NORMAL 1/2 base 1 log 3 point 0 held 0 last 1/2 synced 0");
        net.deliver("START", 1, 4);
        Check.due("it is put right", net.log(4) + " " + net.state(4),
            "0.1 - 3.1 NORMAL 1/2 base 1 log 3 point 0 held 0 last 1/2 synced 0");
    }

    private static void itsOwnDoesNotCountIfOlder() {
        Net net = aSessionThatOneMissed();
        net.table.again(0);
        net.deliver("STAMPED", SEQ, 3).loseAll();
        for (int i = 0; i < 4; i++) {
            net.table.suspect(2);
            net.table.suspect(3);
        }
        net.loseAll("TURN").deliver("TURNED", 2, 4).deliver("TURNED", 3, 4);
        Check.due("its own log, longer or not, does not count", net.log(4), "0.1 - 3.1 0.1");
        Check.due("BASE is that of the others", net.state(4), "NORMAL 4/2 base 1 log 4 point 0 held 0 last 4/2 synced 0");
    }

    private static void anEarlierLeadDoesNotCount() {
        Net net = new Net(5);
        net.table.suspect(2);
        net.table.suspect(3);
        net.deliver("TURNED", 2, 1).deliver("TURNED", 3, 1).deliver("START", 1, 4);
        net.loseAll();
        Check.due("4 was NORMAL in 1/1, 0 in 0/1", net.state(4) + ", " + net.state(0),
            "NORMAL 1/1 base 0 log 0 point 0 held 0 last 1/1 synced 0, NORMAL 0/1 base 0 log 0 point 0 held 0 last 0/1 synced 0");
        net.ask(0, Net.PUT, 0, 1);
        net.ask(1, Net.PUT, 0, 2);
        net.deliver("STAMPED", SEQ, 0).deliver("STAMPED", SEQ, 0).deliver("STAMPED", SEQ, 4).loseAll();
        Check.due("0 took more in 0/1", net.log(0) + ", " + net.log(4) + ", " + net.log(3), "0.1 1.1, 0.1, ");
        for (int i = 0; i < 2; i++) {
            net.table.suspect(3);
        }
        net.loseAll();
        net.table.suspect(4);
        net.table.suspect(4);
        net.loseAll("TURN").deliver("TURNED", 4, 3);
        net.table.suspect(0);
        net.table.suspect(0);
        net.table.suspect(0);
        net.loseAll("TURN").deliver("TURNED", 0, 3);
        Check.due("3 takes what 4 has", net.log(3), "0.1");
        Check.due("3 merged with 4 and 0", net.state(3), "NORMAL 3/1 base 0 log 1 point 0 held 0 last 3/1 synced 0");
    }

    private static void baseOfAnotherSession() {
        Net net = aSessionThatOneMissed();
        net.table.install();
        net.table.again(1);
        for (int r = 0; r < 3; r++) {
            net.deliver("STAMPED", SEQ, r);
        }
        net.deliver("TURNED", 1, 0).deliver("TURNED", 2, 0);
        Check.due("BASE is the log's length", net.state(0), "NORMAL 0/3 base 3 log 3 point 1 held 0 last 0/3 synced 0");
        net.deliver("START", 0, 1).deliver("START", 0, 2);
        Check.due("of another one too, POINT stays", net.state(2), "NORMAL 0/3 base 3 log 3 point 1 held 0 last 0/3 synced 0");
        net.loseAll();
        net.table.again(1);
        net.deliver("STAMPED", SEQ, 0);
        Check.due("number 2 has slot 5", net.state(0), "GAP 0/3 base 3 log 4 point 1 held 1 last 0/3 synced 0");
        net.deliver("GAP COMMIT", 0, 2).deliver("GAP REPLY", 2, 0).deliver("GAP COMMIT", 0, 1).deliver("GAP REPLY", 1, 0);
        Check.due("and is taken", net.log(0), "0.1 - 3.1 - 1.1");
    }

    private static void mergesWithF() {
        Net net = new Net(7);
        for (int r = 4; r < 7; r++) {
            net.table.suspect(r);
        }
        net.deliver("TURNED", 6, 1).deliver("TURNED", 4, 1);
        Check.due("two of seven", net.table.replica(1, 1), 2);
        net.deliver("TURNED", 5, 1);
        Check.due("three of seven", net.table.replica(1, 1), 0);
        Net latest = new Net(5);
        latest.ask(0, Net.PUT, 0, 1).deliver("STAMPED", SEQ, 3).loseAll();
        latest.table.suspect(3);
        latest.deliver("TURNED", 3, 1);
        latest.table.suspect(1);
        latest.table.suspect(3);
        latest.table.suspect(4);
        latest.loseAll("TURN").deliver("TURNED", 4, 1);
        Check.due("what was counted in an earlier view is not", latest.state(1),
            "CHANGE 2/1 base 0 log 0 point 0 held 0 last 0/1 synced 0");
    }
}
