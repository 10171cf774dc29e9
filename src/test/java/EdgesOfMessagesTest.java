/**
 * The boundary cases of "Terms", sentence by sentence: how a replica TURNS and MERGES, and what comes of
 * each message that is DELIVERED to a replica.
 */
final class EdgesOfMessagesTest {
    private static final int[] SIZES = {3, 5, 7};
    private static final int[][] VIEWS = {{0, 1}, {1, 1}, {2, 1}, {0, 2}, {1, 2}, {2, 2}};

    public static void main(String[] args) {
        turnsHoldsNothing();
        turnsToItself();
        mergesWithF();
        mergesItsOwn();
        mergesTheLongest();
        mergesAFullLog();
        mergesNothings();
        mergesBase();
        mergesSendsNoReply();
        oldMessagesToAFollower();
        oldMessagesToALeader();
        oldGapReply();
        oldFoundAndGapCommit();
        stampedOfAnotherSession();
        stampedOfAnEarlierSession();
        stampedBehindTheLog();
        stampedAboveHundred();
        stampedBesideEight();
        stampedTakenIfNormal();
        lookupAtTheEnd();
        lookupOfANothing();
        foundOfTheNextSlot();
        foundBeyondEight();
        gapCommitInTheLog();
        gapCommitOfTheNextSlot();
        gapCommitOfTheHundredth();
        gapCommitToPointAndSynced();
        gapCommitInChange();
        gapRepliesOfF();
        gapReplyOfItsLastSlot();
        syncOfWhatItHas();
        syncReplacesTheFirstM();
        syncOfNothing();
        syncedOrMore();
        syncRepliesOfF();
        syncReplyAbovePoint();
        syncReplyOfAnotherM();
        pointAbovePoint();
        pointNotAboveSynced();
        turnToEachView();
        turnedOfEachView();
        turnedToALeaderAgain();
        startOfEachView();
        startOfAViewItIsNormalIn();
        startKeepsPoint();
        Check.end();
    }

    private static void turnsHoldsNothing() {
        Check.says("that is its view, it is in CHANGE, holds and counts nothing, is SYNCED 0");
        Net net = new Net(3).grow(2);
        net.table.sync(0);
        net.settle().ask(0, Net.PUT, 0, 1).again(0).stamped(4, 2);
        Check.due("before", net.state(2), "NORMAL 0/1 base 0 log 2 point 2 held 1 last 0/1 synced 2");
        net.table.suspect(2);
        Check.due("then", net.state(2), "CHANGE 1/1 base 0 log 2 point 2 held 0 last 0/1 synced 0");
        Net counts = new Net(5);
        counts.table.suspect(2);
        counts.deliver("TURNED", 2, 1).table.suspect(1);
        for (int i = 0; i < 4; i++) {
            counts.table.suspect(1);
        }
        Check.due("it leads once more, with no TURNED", counts.state(1), "CHANGE 6/1 base 0 log 0 point 0 held 0 last 0/1 synced 0");
        counts.loseAll().toView(3, 6, 1).table.nudge(3);
        counts.deliver("TURNED", 3, 1);
        Check.due("one of that view is not F", counts.table.replica(1, 1), 2);
    }

    private static void turnsToItself() {
        Check.says("if that is it itself, none is sent");
        for (int n : SIZES) {
            Net net = new Net(n);
            net.table.suspect(1);
            Check.due(n + ": the leader of the view", net.table.about(0), n - 1);
            Check.due(n + ": its last is a TURN", net.table.message(n - 2, 1), 8);
            net.table.suspect(2);
            Check.due(n + ": another one", net.table.about(0), n - 1 + n);
            Check.due(n + ": its last is a TURNED", net.table.message(2 * n - 2, 1) * 10 + net.table.message(2 * n - 2, 3), 91);
        }
    }

    private static void mergesWithF() {
        Check.says("when it leads its view, is in CHANGE, and TURNED of that view has come from F others");
        for (int n : SIZES) {
            Net net = new Net(n);
            net.table.suspect(1);
            Check.due(n + ": from none", net.table.replica(1, 1), 2);
            for (int came = 1; came <= n / 2; came++) {
                net.table.suspect(came + 1);
                net.deliver("TURNED", came + 1, 1);
                Check.due(n + ": from " + came, net.table.replica(1, 1), came < n / 2 ? 2 : 0);
            }
            Check.due(n + ": the view of the last NORMAL", net.table.replica(1, 8), 1);
        }
    }

    private static void mergesItsOwn() {
        Check.says("(what it has itself is one more, always)");
        Net net = new Net(3).ask(0, Net.PUT, 0, 1).stamped(1, 1);
        net.table.suspect(2);
        net.deliver("TURNED", 2, 1).deliver("START", 1, 2);
        Check.due("what it alone had", net.log(1) + ", " + net.log(2), "0.1, 0.1");
        Check.due("and goes on with", net.state(1), "NORMAL 1/1 base 0 log 1 point 0 held 0 last 1/1 synced 0");
    }

    private static void mergesTheLongest() {
        Check.says("the log is as long as the longest of theirs");
        for (int own = 0; own <= 2; own++) {
            for (int others = 0; others <= 2; others++) {
                longest(3, own, others, 0);
                longest(3, own, others, 2);
                longest(5, own, others, 0, 4);
            }
        }
    }

    /** Replica 1 has so many entries, the last one of the others so many, the ones before it none. */
    private static void longest(int n, int own, int last, int... others) {
        Net net = new Net(n).ask(0, Net.PUT, 0, 1).ask(1, Net.PUT, 0, 2);
        for (int k = 1; k <= own; k++) {
            net.stamped(k, 1);
        }
        for (int k = 1; k <= last; k++) {
            net.stamped(k, others[others.length - 1]);
        }
        for (int r : others) {
            net.table.suspect(r);
            net.deliver("TURNED", r, 1);
        }
        String[] logs = {"", "0.1", "0.1 1.1"};
        Check.due("of " + n + " replicas: " + own + " and " + last, net.log(1), logs[Math.max(own, last)]);
    }

    private static void mergesAFullLog() {
        Check.says("a LOG of at most 100 ENTRIES, each a request or a NOTHING");
        Net net = new Net(3).grow(100);
        net.table.suspect(2);
        net.deliver("TURNED", 2, 1).deliver("START", 1, 0);
        Check.due("merged", net.state(1), "NORMAL 1/1 base 0 log 100 point 0 held 0 last 1/1 synced 0");
        Check.due("started", net.state(0), "NORMAL 1/1 base 0 log 100 point 0 held 0 last 1/1 synced 0");
        Check.due("the 100th entry", net.table.entry(0, 100, 1) * 100 + net.table.entry(0, 100, 2), 325);
        Check.due("all are executed", net.table.word(1, 7), 100);
        Net session = new Net(3).grow(100);
        session.table.install();
        session.ask(0, Net.PUT, 0, 1).stamped(101, 0).deliver("TURN", 0, 1).deliver("TURNED", 1, 0);
        Check.due("in another session", session.state(0), "NORMAL 0/2 base 100 log 100 point 0 held 0 last 0/2 synced 0");
        session.again(0).stamped(102, 0);
        Check.due("number 2 has slot 102", session.state(0), "NORMAL 0/2 base 100 log 100 point 0 held 1 last 0/2 synced 0");
    }

    private static void mergesNothings() {
        Check.says("with a NOTHING where one of them has that, else the request that one of them has");
        Net net = new Net(3).ask(0, Net.PUT, 0, 1).ask(1, Net.PUT, 0, 2).stamped(2, 0).deliver("GAP COMMIT", 0, 2);
        net.stamped(1, 1).stamped(2, 1);
        net.table.suspect(2);
        net.deliver("TURNED", 2, 1);
        Check.due("a NOTHING where it has a request itself", net.log(1), "- 1.1");
        Net own = new Net(3).ask(0, Net.PUT, 0, 1).ask(1, Net.PUT, 0, 2).stamped(2, 0).deliver("GAP COMMIT", 0, 1);
        own.stamped(1, 2).stamped(2, 2);
        own.table.suspect(2);
        own.deliver("TURNED", 2, 1);
        Check.due("its own NOTHING where another one has a request", own.log(1), "- 1.1");
        Net end = new Net(3).ask(0, Net.PUT, 0, 1).ask(1, Net.PUT, 0, 2).ask(2, Net.PUT, 0, 3);
        end.stamped(1, 0, 1, 2).stamped(3, 0).deliver("GAP COMMIT", 0, 2);
        end.table.suspect(2);
        end.deliver("TURNED", 2, 1);
        Check.due("a NOTHING where it has none itself", end.log(1), "0.1 -");
    }

    private static void mergesBase() {
        Check.says("if that view's S is that of its view, else it is the log's length");
        Net same = new Net(3).grow(2);
        same.table.suspect(2);
        same.deliver("TURNED", 2, 1).deliver("START", 1, 2);
        Check.due("the same S", same.state(1), "NORMAL 1/1 base 0 log 2 point 0 held 0 last 1/1 synced 0");
        Check.due("told by START", same.state(2), "NORMAL 1/1 base 0 log 2 point 0 held 0 last 1/1 synced 0");
        Net other = new Net(3).grow(2);
        other.table.install();
        other.ask(0, Net.PUT, 0, 1).again(0).stamped(3, 0).deliver("TURN", 0, 1).deliver("TURNED", 1, 0).deliver("START", 0, 2);
        Check.due("another S", other.state(0), "NORMAL 0/2 base 2 log 2 point 0 held 0 last 0/2 synced 0");
        other.stamped(3, 2);
        other.table.suspect(2);
        other.deliver("TURNED", 2, 1);
        Check.due("that S again, with a longer log", other.state(1), "NORMAL 1/2 base 2 log 3 point 0 held 0 last 1/2 synced 0");
        Net empty = new Net(3);
        empty.table.install();
        empty.ask(0, Net.PUT, 0, 1).stamped(1, 0).deliver("TURN", 0, 1).deliver("TURNED", 1, 0);
        Check.due("another S and an empty log", empty.state(0), "NORMAL 0/2 base 0 log 0 point 0 held 0 last 0/2 synced 0");
    }

    private static void mergesSendsNoReply() {
        Check.says("is SYNCED 0 (POINT stays; no REPLY is sent), and START (view, BASE, its log) is sent to all others");
        Net net = new Net(3).ask(0, Net.PUT, 0, 1).stamped(1, 0, 1, 2).loseAll();
        net.table.sync(0);
        net.settle().ask(1, Net.PUT, 0, 2).stamped(2, 2);
        net.table.suspect(2);
        net.loseAll("REPLY").loseAll("STAMPED").loseAll("TURN").deliver("TURNED", 2, 1).loseAll("TURN");
        Check.due("START alone", net.air(), "START 1>0, START 1>2");
        Check.due("POINT", net.state(1), "NORMAL 1/1 base 0 log 2 point 1 held 0 last 1/1 synced 0");
        Check.due("the new leader executes all", net.table.word(1, 0), 2);
        net.deliver("START", 1, 0);
        Check.due("the old one up to POINT", net.table.word(0, 0), 1);
    }

    /** All go to view 3/1, which replica 0 leads as it does 0/1; what was in the air stays there. */
    private static Net renew(Net net) {
        net.loseAll("STAMPED");
        for (int i = 0; i < 3; i++) {
            net.table.suspect(1);
        }
        net.deliver("TURN", 1, 0).deliver("TURN", 1, 0).deliver("TURN", 1, 0);
        while (net.table.replica(0, 1) == 2) {
            net.deliver("TURNED", 1, 0);
        }
        return net.deliver("START", 0, 1).deliver("START", 0, 2).loseAll("TURN").loseAll("TURNED").loseAll("REPLY");
    }

    private static void oldMessagesToAFollower() {
        Check.says("where a view is told that is not its view nothing comes of it, but for the last three");
        Net net = new Net(3).ask(0, Net.PUT, 0, 1).stamped(1, 0, 1, 2);
        net.table.sync(0);
        net.deliver("SYNC", 0, 2).deliver("SYNC REPLY", 2, 0);
        renew(net);
        Check.due("a SYNC and a POINT of the old view", net.air(), "SYNC 0>1, POINT 0>1, POINT 0>2");
        String before = net.state(1);
        Check.due("the new view", before, "NORMAL 3/1 base 0 log 1 point 0 held 0 last 3/1 synced 0");
        net.deliver("SYNC", 0, 1);
        Check.due("SYNC", net.state(1) + net.air(), before + "POINT 0>1, POINT 0>2");
        Net point = new Net(3).ask(0, Net.PUT, 0, 1).stamped(1, 0, 1, 2);
        point.table.sync(0);
        point.deliver("SYNC", 0, 2).deliver("SYNC REPLY", 2, 0);
        renew(point).loseAll("SYNC");
        point.table.sync(0);
        point.deliver("SYNC", 0, 1).deliver("POINT", 0, 1);
        Check.due("POINT, though it is SYNCED in the new view", point.state(1),
            "NORMAL 3/1 base 0 log 1 point 0 held 0 last 3/1 synced 1");
    }

    private static void oldMessagesToALeader() {
        Check.says("where a view is told that is not its view nothing comes of it");
        Net net = new Net(3).ask(0, Net.PUT, 0, 1).ask(1, Net.PUT, 0, 2).stamped(1, 0, 2).stamped(2, 1);
        net.table.sync(0);
        net.deliver("SYNC", 0, 2).loseAll("SYNC");
        renew(net);
        Check.due("a LOOKUP and a SYNC REPLY of the old view", net.air(), "LOOKUP 1>0, SYNC REPLY 2>0");
        net.deliver("SYNC REPLY", 2, 0);
        Check.due("SYNC REPLY", net.state(0), "NORMAL 3/1 base 0 log 1 point 0 held 0 last 3/1 synced 0");
        net.deliver("LOOKUP", 1, 0);
        Check.due("LOOKUP of a slot that is there", net.air(), "");
    }

    /** Of five replicas 2, 3 and 4 go to view 2/1, with an empty log; these messages alone stay in the air. */
    private static Net withoutTheFirstTwo(Net net, int... kept) {
        for (int r = 3; r <= 4; r++) {
            net.table.suspect(r);
            net.table.suspect(r);
        }
        net.loseAllBut(kept).table.nudge(3);
        net.table.nudge(4);
        net.deliver("TURNED", 3, 2).deliver("TURNED", 4, 2);
        Check.due("the new view", net.state(2), "NORMAL 2/1 base 0 log 0 point 0 held 0 last 2/1 synced 0");
        return net.deliver("START", 2, 1).deliver("START", 2, 3).deliver("START", 2, 4).loseAllBut(kept);
    }

    private static void oldGapReply() {
        Check.says("where a view is told that is not its view nothing comes of it");
        Net net = new Net(5).ask(0, Net.PUT, 0, 1).again(0).again(0).stamped(2, 0).deliver("GAP COMMIT", 0, 1);
        int old = net.numberOf("GAP REPLY", 1, 0);
        int third = net.numberOf("STAMPED", Net.SEQUENCER, 0) + 10;
        withoutTheFirstTwo(net, old, third);
        for (int r = 3; r <= 4; r++) {
            for (int i = 0; i < 3; i++) {
                net.table.suspect(r);
            }
        }
        net.loseAllBut(old, third).table.nudge(3);
        net.table.nudge(4);
        net.deliver("TURNED", 3, 0).deliver("TURNED", 4, 0).deliver("START", 0, 3).deliver("START", 0, 4);
        net.table.deliver(third);
        Check.due("a GAP of the same slot in a later view", net.state(0), "GAP 5/1 base 0 log 1 point 0 held 1 last 5/1 synced 0");
        net.deliver("GAP COMMIT", 0, 3).deliver("GAP REPLY", 3, 0);
        net.table.deliver(old);
        Check.due("a GAP REPLY of the old view", net.table.replica(0, 1), 1);
        net.deliver("GAP COMMIT", 0, 4).deliver("GAP REPLY", 4, 0);
        Check.due("F of the new one; numbers 2 and 3 are behind it", net.log(0) + " " + net.table.replica(0, 1), "- - 1");
    }

    private static void oldFoundAndGapCommit() {
        Check.says("where a view is told that is not its view nothing comes of it");
        Net net = new Net(5).ask(0, Net.PUT, 0, 1).ask(1, Net.PUT, 0, 2).stamped(1, 0).stamped(2, 1).deliver("LOOKUP", 1, 0);
        int found = net.numberOf("FOUND", 0, 1);
        withoutTheFirstTwo(net, found).table.deliver(found);
        Check.due("FOUND", net.state(1), "NORMAL 2/1 base 0 log 0 point 0 held 0 last 2/1 synced 0");
        Net gap = new Net(5).ask(0, Net.PUT, 0, 1).again(0).stamped(2, 0);
        int commit = gap.numberOf("GAP COMMIT", 0, 1);
        withoutTheFirstTwo(gap, commit).table.deliver(commit);
        Check.due("GAP COMMIT", gap.state(1), "NORMAL 2/1 base 0 log 0 point 0 held 0 last 2/1 synced 0");
        Check.due("nothing is sent", gap.air(), "");
    }

    private static void stampedOfAnotherSession() {
        Check.says("s above its S: it TURNS to (L, s).");
        Net net = new Net(3).ask(0, Net.PUT, 0, 1);
        net.table.install();
        net.again(0);
        net.table.install();
        net.again(0).again(0).stamped(2, 1);
        Check.due("one above", net.state(1), "CHANGE 0/2 base 0 log 0 point 0 held 0 last 0/1 synced 0");
        Check.due("it is told", net.table.name(net.table.air().size() - 1), "TURNED 1>0");
        int sent = net.table.about(1);
        net.stamped(1, 1);
        Check.due("one below", net.state(1), "CHANGE 0/2 base 0 log 0 point 0 held 0 last 0/1 synced 0");
        net.stamped(3, 1);
        Check.due("one above once more, in CHANGE", net.state(1), "CHANGE 0/3 base 0 log 0 point 0 held 0 last 0/1 synced 0");
        Check.due("TURN, TURN, TURNED", net.table.about(1) - sent, 3);
        net.stamped(4, 1);
        Check.due("its own, in CHANGE", net.state(1), "CHANGE 0/3 base 0 log 0 point 0 held 0 last 0/1 synced 0");
        Check.due("nothing is sent", net.table.about(1) - sent, 3);
        net.table.suspect(2);
        net.stamped(3, 2);
        Check.due("two above, the lead stays", net.state(2), "CHANGE 1/3 base 0 log 0 point 0 held 0 last 0/1 synced 0");
        net.stamped(1, 0);
        Check.due("its own, NORMAL", net.state(0), "NORMAL 0/1 base 0 log 1 point 0 held 0 last 0/1 synced 0");
    }

    private static void stampedOfAnEarlierSession() {
        Check.says("Else, if s is S");
        Net net = new Net(3).ask(0, Net.PUT, 0, 1).again(0).again(0);
        net.table.install();
        net.again(0).again(0).stamped(4, 0).deliver("TURN", 0, 1).deliver("TURNED", 1, 0).deliver("START", 0, 2);
        Check.due("it is NORMAL in session 2", net.state(2), "NORMAL 0/2 base 0 log 0 point 0 held 0 last 0/2 synced 0");
        int sent = net.table.about(1);
        net.stamped(1, 2).stamped(3, 2);
        Check.due("numbers 1 and 3 of session 1", net.state(2), "NORMAL 0/2 base 0 log 0 point 0 held 0 last 0/2 synced 0");
        Check.due("nothing is sent", net.table.about(1), sent);
        net.stamped(5, 2);
        Check.due("number 2 of its own", net.state(2), "NORMAL 0/2 base 0 log 0 point 0 held 1 last 0/2 synced 0");
        net.stamped(4, 2);
        Check.due("and number 1", net.state(2), "NORMAL 0/2 base 0 log 2 point 0 held 0 last 0/2 synced 0");
    }

    private static void stampedBehindTheLog() {
        Check.says("the slot is behind its log (above 100, too)");
        Net net = new Net(3).ask(0, Net.PUT, 0, 1).ask(1, Net.PUT, 0, 2).ask(2, Net.PUT, 0, 3).ask(3, Net.PUT, 0, 4);
        net.stamped(3, 0).deliver("GAP COMMIT", 0, 1).deliver("GAP REPLY", 1, 0);
        net.stamped(2, 1).stamped(3, 1).loseAll("REPLY").loseAll("GAP COMMIT").loseAll("LOOKUP");
        Check.due("the leader", net.log(0), "- -");
        net.deliver("STAMPED", Net.SEQUENCER, 0);
        Check.due("one before its end", net.log(0) + " " + net.table.replica(0, 7), "- - 1");
        net.deliver("STAMPED", Net.SEQUENCER, 0);
        Check.due("its end", net.log(0) + " " + net.table.replica(0, 7), "- - 1");
        net.stamped(1, 1);
        Check.due("the first of three", net.log(1) + " " + net.table.replica(1, 7), "- 1.1 2.1 0");
        net.stamped(4, 1);
        Check.due("the next one", net.log(1), "- 1.1 2.1 3.1");
        net.stamped(4, 2);
        Check.due("far behind it", net.table.replica(2, 7), 1);
    }

    private static void stampedAboveHundred() {
        Check.says("the slot is behind its log (above 100, too)");
        Net net = new Net(3).grow(100).ask(0, Net.PUT, 0, 1);
        for (int k = 101; k <= 110; k++) {
            net.stamped(k, 0, 2).again(0);
            Check.due("slot " + k + " by the leader", net.table.replica(0, 7), Math.min(8, k - 100));
            Check.due("slot " + k + " by another one", net.table.replica(2, 7), Math.min(8, k - 100));
        }
        Check.due("none of them is taken", net.table.replica(0, 5) + net.table.replica(2, 5), 200);
        Check.due("nothing is sent but STAMPED", net.table.about(1), 600 + 33);
        Check.due("nudge of the leader, with 8 HELD", net.table.nudge(0), 0);
        Check.due("nudge of another one", net.table.nudge(2), 1);
    }

    private static void stampedBesideEight() {
        Check.says("and number k is not HELD and fewer than 8 are: it is HELD");
        Net net = new Net(3).ask(0, Net.PUT, 0, 1);
        for (int i = 0; i < 10; i++) {
            net.again(0);
        }
        for (int k = 2; k <= 11; k++) {
            net.stamped(k, 0, 1);
            Check.due("by the leader, up to number " + k, net.table.replica(0, 7), Math.min(8, k - 1));
            Check.due("by another one, up to number " + k, net.table.replica(1, 7), Math.min(8, k - 1));
        }
        int sent = net.table.about(1);
        net.stamped(1, 1);
        Check.due("not the next one either", net.state(1), "NORMAL 0/1 base 0 log 0 point 0 held 8 last 0/1 synced 0");
        Check.due("and nothing is sent", net.table.about(1), sent);
    }

    private static void stampedTakenIfNormal() {
        Check.says("and if it is NORMAL it TAKES");
        Net net = new Net(3).ask(0, Net.PUT, 0, 1).ask(1, Net.PUT, 0, 2).ask(2, Net.PUT, 0, 3).stamped(3, 0);
        int sent = net.table.about(1);
        net.stamped(2, 0);
        Check.due("in GAP the next one is HELD", net.state(0), "GAP 0/1 base 0 log 1 point 0 held 2 last 0/1 synced 0");
        Check.due("and nothing is sent", net.table.about(1), sent);
        net.deliver("GAP COMMIT", 0, 1).deliver("GAP REPLY", 1, 0);
        Check.due("then both are taken", net.log(0), "- 1.1 2.1");
        Net change = new Net(3).ask(0, Net.PUT, 0, 1);
        change.table.suspect(0);
        change.stamped(1, 0);
        Check.due("in CHANGE it is not HELD", change.table.replica(0, 7), 0);
    }

    private static void lookupAtTheEnd() {
        Check.says("LOOKUP, if it leads and is not in CHANGE: FOUND (view, slot, the request) is sent back if that is there");
        Net net = new Net(3).ask(0, Net.PUT, 0, 1).ask(1, Net.PUT, 0, 2).ask(2, Net.PUT, 0, 3).stamped(2, 1).stamped(3, 1);
        net.loseAllBut(0, 3, net.numberOf("LOOKUP", 1, 0)).deliver("LOOKUP", 1, 0);
        Check.due("an empty log", net.air(), "STAMPED *>0, STAMPED *>0");
        net.stamped(1, 0).loseAll("REPLY").table.nudge(1);
        net.deliver("LOOKUP", 1, 0);
        Check.due("the last slot", net.air(), "STAMPED *>0, FOUND 0>1");
        net.table.nudge(1);
        net.stamped(2, 0).loseAll("REPLY").deliver("LOOKUP", 1, 0);
        Check.due("the one before the last", net.air(), "FOUND 0>1, FOUND 0>1");
        net.deliver("FOUND", 0, 1);
        Check.due("what was found", net.log(1), "0.1 1.1 2.1");
        Net beyond = new Net(3).ask(0, Net.PUT, 0, 1).again(0).again(0).stamped(1, 0, 1).stamped(3, 1);
        beyond.loseAll("STAMPED").loseAll("REPLY").deliver("LOOKUP", 1, 0);
        Check.due("the one behind the last", beyond.air(), "");
    }

    private static void lookupOfANothing() {
        Check.says("GAP COMMIT (view, slot) if a NOTHING is");
        Net net = new Net(3).ask(0, Net.PUT, 0, 1).again(0).stamped(2, 0, 1).loseAll("GAP COMMIT").deliver("LOOKUP", 1, 0);
        net.loseAll("STAMPED");
        Check.due("by a leader in GAP, to the one that asked", net.air(), "GAP COMMIT 0>1");
        net.deliver("GAP COMMIT", 0, 1);
        Check.due("which goes on", net.log(1), "- 0.1");
    }

    private static void foundOfTheNextSlot() {
        Check.says("FOUND, if it is NORMAL and the slot is the next one");
        Net net = new Net(3).ask(0, Net.PUT, 0, 1).ask(1, Net.PUT, 0, 2).ask(2, Net.PUT, 0, 3).stamped(1, 0).stamped(2, 1);
        net.deliver("LOOKUP", 1, 0).table.nudge(1);
        net.deliver("LOOKUP", 1, 0).deliver("FOUND", 0, 1);
        Check.due("the next one", net.log(1), "0.1 1.1");
        int sent = net.table.about(1);
        net.deliver("FOUND", 0, 1);
        Check.due("one that is there", net.state(1), "NORMAL 0/1 base 0 log 2 point 0 held 0 last 0/1 synced 0");
        Check.due("nothing is sent", net.table.about(1), sent);
        Net full = new Net(3).grow(99).ask(0, Net.PUT, 0, 1).again(0).stamped(100, 0).stamped(101, 1).deliver("LOOKUP", 1, 0);
        full.deliver("FOUND", 0, 1);
        Check.due("the 100th", full.state(1), "NORMAL 0/1 base 0 log 100 point 0 held 1 last 0/1 synced 0");
    }

    private static void foundBeyondEight() {
        Check.says("the request is HELD (instead of what is held there, beyond 8 too), and it TAKES");
        Net net = new Net(3).ask(0, Net.PUT, 0, 1);
        for (int k = 2; k <= 9; k++) {
            net.again(0).stamped(k, 1);
        }
        net.stamped(1, 0);
        Check.due("eight are HELD", net.table.replica(1, 7), 8);
        net.deliver("LOOKUP", 1, 0).deliver("FOUND", 0, 1);
        Check.due("all nine are taken", net.state(1), "NORMAL 0/1 base 0 log 9 point 0 held 0 last 0/1 synced 0");
    }

    /** The leader has request 0.1 and then, in GAP, a NOTHING; it holds number 3. */
    private static Net gapOfSlotTwo() {
        Net net = new Net(3).ask(0, Net.PUT, 0, 1).ask(1, Net.PUT, 0, 2).ask(2, Net.PUT, 0, 3).stamped(1, 0).stamped(3, 0);
        return net.loseAll("REPLY");
    }

    private static void gapCommitInTheLog() {
        Check.says("GAP COMMIT, if it does not lead and is NORMAL: the slot in its log becomes a NOTHING");
        Net last = gapOfSlotTwo().stamped(1, 1).stamped(2, 1).loseAll("REPLY").deliver("GAP COMMIT", 0, 1).loseAll("STAMPED");
        Check.due("its last one", last.log(1), "0.1 -");
        Check.due("GAP REPLY, and no more", last.air(), "GAP COMMIT 0>2, GAP REPLY 1>0");
        Net inside = gapOfSlotTwo().stamped(1, 1).stamped(2, 1).stamped(3, 1).loseAll("REPLY").deliver("GAP COMMIT", 0, 1);
        Check.due("one before its last", inside.loseAll("STAMPED").log(1), "0.1 - 2.1");
        Check.due("GAP REPLY", inside.air(), "GAP COMMIT 0>2, GAP REPLY 1>0");
        Net first = new Net(3).ask(0, Net.PUT, 0, 1).ask(1, Net.PUT, 0, 2).stamped(2, 0).stamped(1, 1).loseAll("REPLY");
        first.deliver("GAP COMMIT", 0, 1);
        Check.due("its first one", first.log(1), "-");
        Net twice = new Net(3).ask(0, Net.PUT, 0, 1).ask(1, Net.PUT, 0, 2).stamped(2, 0).loseAll("STAMPED");
        twice.table.nudge(0);
        twice.deliver("GAP COMMIT", 0, 1).deliver("GAP COMMIT", 0, 1);
        Check.due("one that is a NOTHING", twice.log(1) + ", " + twice.air(), "-, GAP COMMIT 0>2, GAP COMMIT 0>2, GAP REPLY 1>0, GAP REPLY 1>0");
        Net full = new Net(3).grow(99).ask(0, Net.PUT, 0, 1).again(0).stamped(100, 1).stamped(101, 0).loseAll("REPLY");
        full.deliver("GAP COMMIT", 0, 1).loseAll("STAMPED");
        Check.due("the 100th", full.table.entry(1, 100, 0) + " " + full.air(), "0 GAP COMMIT 0>2, GAP REPLY 1>0");
    }

    private static void gapCommitOfTheNextSlot() {
        Check.says("or, if that is the next one, a NOTHING comes there");
        Net net = gapOfSlotTwo().stamped(1, 1).loseAll("REPLY").deliver("GAP COMMIT", 0, 1);
        Check.due("the next one", net.log(1), "0.1 -");
        Check.says("In both cases GAP REPLY (view, slot) is sent to the leader; then, in the second one, it TAKES.");
        Net takes = gapOfSlotTwo().stamped(1, 1).stamped(3, 1).loseAll("REPLY").loseAll("LOOKUP").deliver("GAP COMMIT", 0, 1);
        Check.due("what was HELD behind it", takes.log(1), "0.1 - 2.1");
        Check.due("GAP REPLY comes first", takes.loseAll("STAMPED").air(), "GAP COMMIT 0>2, GAP REPLY 1>0, REPLY 1>2");
        Net stays = gapOfSlotTwo().stamped(1, 1).stamped(2, 1).again(1).stamped(4, 1).loseAll("REPLY").loseAll("LOOKUP");
        stays.loseAll("STAMPED").deliver("GAP COMMIT", 0, 1);
        Check.due("in the first one it does not: number 4 is HELD", stays.log(1) + " " + stays.table.replica(1, 7), "0.1 - 1");
        Check.due("and nothing is asked for", stays.air(), "GAP COMMIT 0>2, GAP REPLY 1>0");
        Net beyond = gapOfSlotTwo().loseAll("STAMPED").deliver("GAP COMMIT", 0, 1);
        Check.due("the one behind the next", beyond.log(1) + beyond.air(), "GAP COMMIT 0>2");
    }

    private static void gapCommitOfTheHundredth() {
        Check.says("with 100 entries nothing comes of it at all");
        Net net = new Net(3).grow(99).ask(0, Net.PUT, 0, 1).again(0).stamped(101, 0, 1).deliver("GAP COMMIT", 0, 1);
        Check.due("with 99 it comes", net.state(1), "NORMAL 0/1 base 0 log 100 point 0 held 1 last 0/1 synced 0");
        Check.due("it is a NOTHING", net.table.entry(1, 100, 0), 0);
        Check.due("nothing is taken behind it", net.table.entry(1, 101, 0), -1);
        net.deliver("GAP REPLY", 1, 0);
        Check.due("of the leader neither", net.state(0), "NORMAL 0/1 base 0 log 100 point 0 held 1 last 0/1 synced 0");
    }

    private static void gapCommitToPointAndSynced() {
        Check.says("(up to POINT or what is SYNCED, too)");
        Net net = new Net(3).ask(0, Net.PUT, 0, 1).again(0).stamped(2, 0);
        net.table.nudge(0);
        net.deliver("GAP COMMIT", 0, 1).deliver("GAP REPLY", 1, 0).stamped(2, 1).loseAll("REPLY").loseAll("STAMPED");
        net.table.nudge(0);
        net.table.sync(0);
        net.deliver("SYNC", 0, 1).deliver("SYNC REPLY", 1, 0).deliver("POINT", 0, 1);
        Check.due("POINT and SYNCED are above", net.state(1), "NORMAL 0/1 base 0 log 2 point 2 held 0 last 0/1 synced 2");
        net.loseAll("SYNC").loseAll("POINT").deliver("GAP COMMIT", 0, 1);
        Check.due("GAP REPLY is sent", net.air(), "GAP COMMIT 0>2, GAP COMMIT 0>2, GAP REPLY 1>0");
        Check.due("both stay", net.state(1), "NORMAL 0/1 base 0 log 2 point 2 held 0 last 0/1 synced 2");
    }

    private static void gapCommitInChange() {
        Check.says("GAP COMMIT, if it does not lead and is NORMAL");
        Net net = new Net(3).ask(0, Net.PUT, 0, 1).again(0).stamped(2, 0).loseAll("STAMPED");
        net.table.suspect(1);
        net.loseAll("TURN").deliver("GAP COMMIT", 0, 1);
        Check.due("in CHANGE", net.state(1) + net.air(), "CHANGE 1/1 base 0 log 0 point 0 held 0 last 0/1 synced 0GAP COMMIT 0>2");
    }

    private static void gapRepliesOfF() {
        Check.says("it counts that of each replica; with F of them it is NORMAL, and TAKES");
        for (int n : SIZES) {
            Net net = new Net(n).ask(0, Net.PUT, 0, 1).again(0).stamped(2, 0);
            net.table.nudge(0);
            Check.due(n + ": none", net.table.replica(0, 1), 1);
            for (int r = 1; r <= n / 2; r++) {
                Check.due(n + ": one fewer than " + r, net.table.replica(0, 1) * 10 + net.table.replica(0, 5), 11);
                net.deliver("GAP COMMIT", 0, r).deliver("GAP COMMIT", 0, r).deliver("GAP REPLY", r, 0);
                if (r < n / 2) {
                    net.deliver("GAP REPLY", r, 0);
                }
            }
            Check.due(n + ": F of them", net.log(0) + " " + net.table.replica(0, 1), "- 0.1 0");
        }
    }

    private static void gapReplyOfItsLastSlot() {
        Check.says("GAP REPLY, if it leads, is in GAP, and the slot is its last one");
        Net net = new Net(3).ask(0, Net.PUT, 0, 1).again(0).again(0).again(0).stamped(2, 0);
        net.table.nudge(0);
        net.deliver("GAP COMMIT", 0, 1).deliver("GAP COMMIT", 0, 1).deliver("GAP REPLY", 1, 0).stamped(4, 0);
        Check.due("a second GAP", net.state(0), "GAP 0/1 base 0 log 3 point 0 held 1 last 0/1 synced 0");
        net.deliver("GAP REPLY", 1, 0);
        Check.due("one of the first", net.state(0), "GAP 0/1 base 0 log 3 point 0 held 1 last 0/1 synced 0");
        net.stamped(2, 1).deliver("GAP COMMIT", 0, 1).deliver("GAP REPLY", 1, 0);
        Check.due("one of its last slot", net.state(0), "NORMAL 0/1 base 0 log 4 point 0 held 0 last 0/1 synced 0");
    }

    private static void syncOfWhatItHas() {
        Check.says("SYNC (view, m, the first m entries), if it does not lead, is NORMAL and has m");
        for (int has = 0; has <= 3; has++) {
            Net net = new Net(3).ask(0, Net.PUT, 0, 1).ask(1, Net.PUT, 0, 2).ask(2, Net.PUT, 0, 3).stamped(1, 0).stamped(2, 0);
            for (int k = 1; k <= has; k++) {
                net.stamped(k, 1);
            }
            net.loseAll().table.sync(0);
            net.deliver("SYNC", 0, 1);
            Check.due("m 2 and " + has + " entries", net.state(1), "NORMAL 0/1 base 0 log " + has
                + " point 0 held 0 last 0/1 synced " + (has < 2 ? 0 : 2));
            Check.due("SYNC REPLY", net.air(), "SYNC 0>2" + (has < 2 ? "" : ", SYNC REPLY 1>0"));
        }
        Net change = new Net(3);
        change.table.sync(0);
        change.table.suspect(1);
        change.loseAll("TURN").deliver("SYNC", 0, 1);
        Check.due("in CHANGE", change.air(), "SYNC 0>2");
    }

    private static void syncReplacesTheFirstM() {
        Check.says("these are its first m");
        String[] logs = {"0.1 1.1", "0.1 - 2.1", "0.1 - 2.1 3.1"};
        for (int has = 2; has <= 4; has++) {
            Net net = new Net(3).ask(0, Net.PUT, 0, 1).ask(1, Net.PUT, 0, 2).ask(2, Net.PUT, 0, 3).ask(3, Net.PUT, 0, 4);
            for (int k = 1; k <= has; k++) {
                net.stamped(k, 1);
            }
            net.stamped(1, 0, 2).stamped(3, 0).deliver("GAP COMMIT", 0, 2).deliver("GAP REPLY", 2, 0);
            Check.due("the leader's", net.log(0), "0.1 - 2.1");
            net.table.sync(0);
            net.deliver("SYNC", 0, 1);
            Check.due("m 3 and " + has + " entries", net.log(1), logs[has - 2]);
        }
    }

    private static void syncOfNothing() {
        Check.says("SYNC REPLY (view, m) is sent to the leader in any case (m may be 0)");
        Net net = new Net(3);
        net.table.sync(0);
        net.deliver("SYNC", 0, 1);
        Check.due("m 0 of an empty log", net.air(), "SYNC 0>2, SYNC REPLY 1>0");
        net.ask(0, Net.PUT, 0, 1).stamped(1, 2).deliver("SYNC", 0, 2);
        Check.due("m 0 of a longer one", net.state(2), "NORMAL 0/1 base 0 log 1 point 0 held 0 last 0/1 synced 0");
        net.loseAll("STAMPED").loseAll("REPLY");
        Check.due("is replied to", net.air(), "SYNC REPLY 1>0, SYNC REPLY 2>0");
        net.settle();
        Check.due("POINT is not below m 0", net.state(0), "NORMAL 0/1 base 0 log 0 point 0 held 0 last 0/1 synced 0");
        Check.due("nothing more is sent", net.table.about(0), 0);
    }

    private static void syncedOrMore() {
        Check.says("it is SYNCED m (or more, as before)");
        Net net = new Net(3).ask(0, Net.PUT, 0, 1).ask(1, Net.PUT, 0, 2).stamped(1, 0, 1).loseAll("REPLY");
        net.table.sync(0);
        int first = net.numberOf("SYNC", 0, 1);
        net.stamped(2, 0, 1).loseAllBut(first).table.sync(0);
        net.table.deliver(net.table.message(1, 0));
        Check.due("m 2", net.table.replica(1, 10), 2);
        net.table.deliver(first);
        Check.due("then m 1", net.table.replica(1, 10), 2);
        Check.due("both are replied to", net.air(), "SYNC 0>2, SYNC REPLY 1>0, SYNC REPLY 1>0");
        net.table.sync(0);
        net.deliver("SYNC", 0, 1);
        Check.due("then m 2 again", net.table.replica(1, 10), 2);
        Net up = new Net(3).ask(0, Net.PUT, 0, 1).ask(1, Net.PUT, 0, 2).stamped(1, 0, 1).loseAll("REPLY");
        up.table.sync(0);
        up.deliver("SYNC", 0, 1).stamped(2, 0, 1).loseAll("SYNC");
        Check.due("m 1 alone", up.table.replica(1, 10), 1);
        up.table.sync(0);
        up.deliver("SYNC", 0, 1);
        Check.due("m 2 behind it", up.table.replica(1, 10), 2);
    }

    private static void syncRepliesOfF() {
        Check.says("it counts those of each replica for this m (another m: anew); with F of them POINT is m");
        for (int n : SIZES) {
            Net net = new Net(n).ask(0, Net.PUT, 0, 1);
            for (int r = 0; r < n; r++) {
                net.stamped(1, r);
            }
            net.loseAll().table.sync(0);
            net.table.sync(0);
            for (int r = 1; r <= n / 2; r++) {
                Check.due(n + ": one fewer than " + r, net.table.replica(0, 6), 0);
                net.deliver("SYNC", 0, r).deliver("SYNC", 0, r).deliver("SYNC REPLY", r, 0);
                if (r < n / 2) {
                    net.deliver("SYNC REPLY", r, 0);
                }
            }
            Check.due(n + ": F of them", net.table.replica(0, 6), 1);
            net.loseAll("SYNC").loseAll("SYNC REPLY");
            Check.due(n + ": POINT to all others", net.table.about(0), n - 1);
        }
    }

    private static void syncReplyAbovePoint() {
        Check.says("SYNC REPLY, if it leads, is not in CHANGE, and m is above POINT");
        Net net = new Net(3).ask(0, Net.PUT, 0, 1).ask(1, Net.PUT, 0, 2).stamped(1, 0, 1, 2).loseAll("REPLY");
        net.table.sync(0);
        net.deliver("SYNC", 0, 1).deliver("SYNC", 0, 2).deliver("SYNC REPLY", 1, 0).loseAll("POINT");
        Check.due("m 1 above POINT 0", net.table.replica(0, 6), 1);
        int sent = net.table.about(1);
        net.deliver("SYNC REPLY", 2, 0);
        Check.due("m 1 is not above POINT 1", net.table.replica(0, 6) * 10 + net.table.about(1) - sent, 10);
        net.table.sync(0);
        net.stamped(2, 0, 1).loseAll("REPLY").loseAll("STAMPED");
        net.table.sync(0);
        net.deliver("SYNC", 0, 2).deliver("SYNC", 0, 1).deliver("SYNC", 0, 1);
        net.table.deliver(net.table.message(net.table.about(0) - 1, 0));
        Check.due("m 2 is", net.table.replica(0, 6), 2);
        sent = net.table.about(1);
        net.deliver("SYNC REPLY", 2, 0).deliver("SYNC REPLY", 1, 0);
        Check.due("m 1 is below POINT 2", net.table.replica(0, 6) * 10 + net.table.about(1) - sent, 20);
    }

    private static void syncReplyOfAnotherM() {
        Check.says("(another m: anew)");
        Net net = new Net(5).ask(0, Net.PUT, 0, 1).ask(1, Net.PUT, 0, 2).stamped(1, 0, 1, 2, 3).loseAll("REPLY");
        net.table.sync(0);
        net.deliver("SYNC", 0, 1).deliver("SYNC", 0, 2).loseAll("SYNC").stamped(2, 0, 3).loseAll("REPLY").loseAll("STAMPED");
        net.table.sync(0);
        net.deliver("SYNC", 0, 3).deliver("SYNC REPLY", 1, 0).deliver("SYNC REPLY", 3, 0);
        Check.due("m 1 of 1, m 2 of 3", net.table.replica(0, 6), 0);
        net.deliver("SYNC REPLY", 2, 0);
        Check.due("m 1 of 2: the one of 1 is forgotten", net.table.replica(0, 6), 0);
    }

    private static void pointAbovePoint() {
        Check.says("POINT, if it does not lead, is not in CHANGE, m is above its POINT, and it is SYNCED m or more");
        Net net = new Net(3).ask(0, Net.PUT, 0, 1).ask(1, Net.PUT, 0, 2).stamped(1, 0, 1, 2).loseAll("REPLY");
        net.table.sync(0);
        net.deliver("SYNC", 0, 2).deliver("SYNC REPLY", 2, 0).loseAll("SYNC");
        int one = net.numberOf("POINT", 0, 1);
        net.stamped(2, 0, 1).loseAllBut(one).table.sync(0);
        net.deliver("SYNC", 0, 1).deliver("SYNC REPLY", 1, 0);
        net.table.deliver(net.table.message(2, 0));
        Check.due("m 2, SYNCED 2", net.state(1), "NORMAL 0/1 base 0 log 2 point 2 held 0 last 0/1 synced 2");
        net.table.deliver(one);
        Check.due("then m 1", net.table.replica(1, 6), 2);
        Net more = new Net(3).ask(0, Net.PUT, 0, 1).ask(1, Net.PUT, 0, 2).stamped(1, 0, 1, 2).loseAll("REPLY");
        more.table.sync(0);
        more.deliver("SYNC", 0, 2).deliver("SYNC REPLY", 2, 0).loseAll("SYNC").stamped(2, 0, 1);
        more.table.sync(0);
        more.deliver("SYNC", 0, 1).deliver("POINT", 0, 1);
        Check.due("m 1, SYNCED 2", more.state(1), "NORMAL 0/1 base 0 log 2 point 1 held 0 last 0/1 synced 2");
    }

    private static void pointNotAboveSynced() {
        Check.says("and it is SYNCED m or more: its POINT is m");
        Net net = new Net(3).ask(0, Net.PUT, 0, 1).ask(1, Net.PUT, 0, 2).stamped(1, 0, 1, 2).loseAll("REPLY");
        net.table.sync(0);
        net.deliver("SYNC", 0, 1).loseAll("SYNC").loseAll("SYNC REPLY").stamped(2, 0, 1, 2).loseAll("REPLY");
        net.table.sync(0);
        net.deliver("SYNC", 0, 2).deliver("SYNC REPLY", 2, 0).deliver("POINT", 0, 1).deliver("POINT", 0, 2);
        Check.due("m 2, SYNCED 1", net.state(1), "NORMAL 0/1 base 0 log 2 point 0 held 0 last 0/1 synced 1");
        Check.due("m 2, SYNCED 2", net.state(2), "NORMAL 0/1 base 0 log 2 point 2 held 0 last 0/1 synced 2");
    }

    private static boolean isBehind(int[] v, int[] w) {
        return (v[0] < w[0] || v[1] < w[1]) && v[0] <= w[0] && v[1] <= w[1];
    }

    private static boolean isSame(int[] v, int[] w) {
        return v[0] == w[0] && v[1] == w[1];
    }

    private static String inChange(int lead, int session) {
        return "CHANGE " + lead + "/" + session + " base 0 log 0 point 0 held 0 last 0/1 synced 0";
    }

    private static void turnToEachView() {
        Check.says("TURN (w), if w is not its view and not behind it: it TURNS to both JOINED.");
        for (int[] v : VIEWS) {
            for (int[] w : VIEWS) {
                if (isSame(w, VIEWS[0])) {
                    continue;
                }
                Net net = new Net(5).toView(1, v[0], v[1]).toView(2, w[0], w[1]);
                String before = net.state(1);
                net.table.nudge(2);
                int sent = net.table.about(1);
                net.deliver("TURN", 2, 1);
                String what = "in " + v[0] + "/" + v[1] + " a TURN to " + w[0] + "/" + w[1];
                boolean turns = !isSame(v, w) && !isBehind(w, v);
                int lead = Math.max(v[0], w[0]);
                Check.due(what, net.state(1), turns ? inChange(lead, Math.max(v[1], w[1])) : before);
                Check.due(what + " sends", net.table.about(1) - sent, turns ? lead == 1 ? 4 : 5 : 0);
            }
        }
    }

    private static void turnedOfEachView() {
        Check.says("TURNED (w, ..): if w is not its view and not behind it, it TURNS to both JOINED first.");
        for (int[] v : VIEWS) {
            for (int session = 1; session <= 2; session++) {
                int[] w = {1, session};
                Net net = new Net(5).toView(1, v[0], v[1]).toView(2, w[0], w[1]).toView(3, w[0], w[1]);
                String before = net.state(1);
                net.table.nudge(2);
                net.table.nudge(3);
                net.deliver("TURNED", 2, 1);
                String what = "in " + v[0] + "/" + v[1] + " a TURNED of 1/" + session;
                boolean turns = !isSame(v, w) && !isBehind(w, v);
                String then = turns ? inChange(Math.max(v[0], 1), Math.max(v[1], session)) : before;
                Check.due(what, net.state(1), then);
                net.deliver("TURNED", 3, 1);
                boolean counts = isSame(v, w) || isBehind(v, w);
                Check.due("the second " + what, net.state(1),
                    counts ? "NORMAL 1/" + session + " base 0 log 0 point 0 held 0 last 1/" + session + " synced 0" : then);
            }
        }
    }

    private static void turnedToALeaderAgain() {
        Check.says("in CHANGE that counts (the latest one of each replica), and it may MERGE; NORMAL or in GAP START is sent to that one");
        Net net = new Net(5).toView(2, 1, 1).toView(3, 1, 1).toView(4, 1, 1);
        net.table.nudge(2);
        net.table.nudge(2);
        net.deliver("TURNED", 2, 1).deliver("TURNED", 2, 1);
        Check.due("two of one replica are one", net.table.replica(1, 1), 2);
        net.table.nudge(3);
        net.deliver("TURNED", 3, 1);
        Check.due("two replicas", net.table.replica(1, 1), 0);
        net.loseAll().table.nudge(4);
        net.loseAll("TURN").deliver("TURNED", 4, 1);
        Check.due("NORMAL", net.air(), "START 1>4");
        net.loseAll().ask(0, Net.PUT, 0, 1).again(0).stamped(2, 1).loseAll().table.nudge(4);
        Check.due("it is in GAP", net.table.replica(1, 1), 1);
        net.loseAll("TURN").deliver("TURNED", 4, 1);
        Check.due("in GAP", net.air(), "START 1>4");
        net.deliver("START", 1, 4);
        Check.due("with the NOTHING", net.log(4) + " " + net.table.replica(4, 1), "- 0");
    }

    private static void startOfEachView() {
        Check.says("START (w, BASE, log): if its view is behind w, or is w and it is in CHANGE");
        for (int[] v : VIEWS) {
            for (int[] w : VIEWS) {
                if (isSame(w, VIEWS[0])) {
                    continue;
                }
                int first = w[0] == 0 ? 1 : 0;
                int second = w[0] == 2 ? 1 : 3;
                Net net = new Net(5).toView(4, v[0], v[1]).toView(first, w[0], w[1]).toView(second, w[0], w[1]);
                net.table.nudge(first);
                net.table.nudge(second);
                net.deliver("TURNED", first, w[0]).deliver("TURNED", second, w[0]);
                String before = net.state(4);
                net.deliver("START", w[0], 4);
                Check.due("in " + v[0] + "/" + v[1] + " a START of " + w[0] + "/" + w[1], net.state(4),
                    isSame(v, w) || isBehind(v, w) ? "NORMAL " + w[0] + "/" + w[1] + " base 0 log 0 point 0 held 0 last "
                        + w[0] + "/" + w[1] + " synced 0" : before);
            }
        }
    }

    private static void startOfAViewItIsNormalIn() {
        Check.says("or is w and it is in CHANGE");
        Net net = new Net(3).toView(2, 1, 1);
        net.table.nudge(2);
        net.table.nudge(2);
        net.deliver("TURNED", 2, 1).deliver("TURNED", 2, 1).deliver("START", 1, 2);
        Check.due("in CHANGE", net.state(2), "NORMAL 1/1 base 0 log 0 point 0 held 0 last 1/1 synced 0");
        net.ask(0, Net.PUT, 0, 1).stamped(1, 2).deliver("START", 1, 2);
        Check.due("NORMAL", net.state(2), "NORMAL 1/1 base 0 log 1 point 0 held 0 last 1/1 synced 0");
        Check.due("its log stays", net.log(2), "0.1");
    }

    private static void startKeepsPoint() {
        Check.says("holds and counts nothing, is SYNCED 0 (POINT stays; no REPLY is sent, it does not TAKE)");
        Net net = new Net(3).ask(0, Net.PUT, 0, 1).stamped(1, 0, 1, 2).loseAll("REPLY");
        net.table.sync(0);
        net.settle().ask(1, Net.PUT, 0, 2).ask(2, Net.PUT, 0, 3).ask(3, Net.PUT, 0, 4).stamped(2, 1).stamped(4, 2);
        net.loseAll();
        Check.due("before", net.state(2), "NORMAL 0/1 base 0 log 1 point 1 held 1 last 0/1 synced 1");
        net.table.suspect(1);
        net.loseAll("TURN").table.suspect(0);
        net.deliver("TURNED", 0, 1).loseAll("TURN").deliver("START", 1, 2).loseAll("START");
        Check.due("then", net.state(2), "NORMAL 1/1 base 0 log 2 point 1 held 0 last 1/1 synced 0");
        Check.due("nothing is sent", net.air(), "");
        Check.due("its words are those up to POINT", net.table.word(2, 0), 1);
    }
}
