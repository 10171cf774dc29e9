/** What the document's "Terms" say: the air, how replicas TAKE, TURN and MERGE, each message, clients. */
final class TermsTest {
    private static final int SEQ = Net.SEQUENCER;

    public static void main(String[] args) {
        airIsFull();
        airHasRoomForWhatADeliverySends();
        requestsAreDoneOnce();
        heldRequestsAreTakenInOrder();
        eightAreHeld();
        foundBesideEight();
        stampedTooLate();
        stampedOfAnotherSession();
        theHundredthIsTaken();
        aFullLogTakesNoMore();
        lookupIsAnswered();
        foundTooLate();
        leaderMissesOne();
        gapRepliesAreCountedAnew();
        gapReplyOfAnotherSlot();
        gapCommitOverARequest();
        gapCommitOverWhatIsHeld();
        gapCommitBeyondTheNext();
        gapCommitBelowPoint();
        syncReplaces();
        syncOfMoreThanThere();
        syncRepliesAreCountedForOneM();
        pointNeedsSynced();
        turnsToJoinedViews();
        turnedTurnsAndCounts();
        turnedIsCountedOnceAndTheLatest();
        startIsSentAgain();
        startBringsAllAndTakesNothing();
        startForgetsWhatIsHeld();
        messagesOfOtherViews();
        repliesOnlyOfTheLatest();
        acceptedOnlyWithTheLeader();
        placesAreForgotten();
        Check.end();
    }

    private static void airIsFull() {
        Net net = new Net(3);
        net.ask(0, Net.PUT, 0, 1);
        for (int i = 0; i < 66; i++) {
            net.table.again(0);
        }
        Check.due("in the air", net.table.about(0), 200);
        Check.due("sent", net.table.about(1), 201);
        Check.due("lost", net.table.about(2), 1);
        Check.due("the last one there", net.table.message(199, 0), 199);
        Check.due("none beyond", net.table.message(200, 0), -1);
        net.table.again(0);
        Check.due("lost at once", net.table.about(2), 4);
        net.table.lose(50);
        net.table.again(0);
        Check.due("there is room for one", net.table.message(199, 0), 204);
        Check.due("that comes from the sequencer", net.table.message(199, 2) * 10 + net.table.message(199, 3), -10);
        Check.due("not for two", net.table.about(2), 7);
        Check.raises("one lost at once", IllegalArgumentException.class, () -> net.table.deliver(205));
    }

    private static void airHasRoomForWhatADeliverySends() {
        Net net = new Net(3);
        net.ask(0, Net.PUT, 0, 1);
        for (int i = 0; i < 66; i++) {
            net.table.again(0);
        }
        net.table.deliver(0);
        Check.due("the REPLY has its place", net.table.message(199, 1) * 1000 + net.table.message(199, 0), 11201);
        Check.due("only one was lost", net.table.about(2), 1);
        net.table.suspect(1);
        Check.due("all of a TURN are lost", net.table.about(2), 1 + 2);
        Check.due("yet it turned", net.table.replica(1, 1), 2);
    }

    private static void requestsAreDoneOnce() {
        Net net = new Net(3);
        net.ask(0, Net.ADD, 0, 5);
        net.table.again(0);
        net.ask(1, Net.ADD, 0, 7);
        net.deliver("STAMPED", SEQ, 0).deliver("STAMPED", SEQ, 0).deliver("STAMPED", SEQ, 0);
        Check.due("twice in the log", net.log(0), "0.1 0.1 1.1");
        Check.due("done once", net.table.word(0, 0), 12);
        Check.due("yet each has a REPLY", net.loseAll("STAMPED").air(), "REPLY 0>0, REPLY 0>0, REPLY 0>1");
    }

    private static void heldRequestsAreTakenInOrder() {
        Net net = new Net(3);
        net.ask(0, Net.PUT, 0, 1).ask(1, Net.PUT, 0, 2).ask(2, Net.PUT, 0, 3).ask(3, Net.PUT, 0, 4);
        net.table.deliver(10);
        Check.due("number 4 is HELD", net.state(1), "NORMAL 0/1 base 0 log 0 point 0 held 1 last 0/1 synced 0");
        net.table.deliver(4);
        net.table.deliver(1);
        Check.due("numbers 1 and 2 are taken", net.log(1), "0.1 1.1");
        Check.due("4 stays HELD", net.table.replica(1, 7), 1);
        net.loseAll("STAMPED");
        Check.due("each time the next was looked up", net.air(),
            "LOOKUP 1>0, LOOKUP 1>0, REPLY 1>0, REPLY 1>1, LOOKUP 1>0");
    }

    private static void eightAreHeld() {
        Net net = new Net(3);
        net.ask(0, Net.PUT, 0, 1);
        for (int i = 0; i < 10; i++) {
            net.table.again(0);
        }
        net.lose("STAMPED", SEQ, 1);
        for (int i = 0; i < 8; i++) {
            net.deliver("STAMPED", SEQ, 1);
        }
        Check.due("eight are HELD", net.table.replica(1, 7), 8);
        int sent = net.table.about(1);
        net.deliver("STAMPED", SEQ, 1);
        Check.due("a ninth is not", net.table.replica(1, 7), 8);
        Check.due("and nothing is asked for", net.table.about(1), sent);
    }

    private static void foundBesideEight() {
        Net net = new Net(3);
        net.ask(0, Net.PUT, 0, 1);
        for (int i = 0; i < 9; i++) {
            net.table.again(0);
        }
        for (int i = 0; i < 8; i++) {
            net.table.deliver(4 + 3 * i);
        }
        net.table.deliver(1);
        Check.due("the next one is not HELD beside eight", net.state(1),
            "NORMAL 0/1 base 0 log 0 point 0 held 8 last 0/1 synced 0");
        net.deliver("STAMPED", SEQ, 0).deliver("LOOKUP", 1, 0).deliver("FOUND", 0, 1);
        Check.due("but found it is", net.state(1), "NORMAL 0/1 base 0 log 9 point 0 held 0 last 0/1 synced 0");
    }

    private static void stampedTooLate() {
        Net net = new Net(3);
        net.ask(0, Net.PUT, 0, 1).ask(1, Net.PUT, 0, 2).ask(2, Net.PUT, 0, 3).ask(3, Net.PUT, 0, 4);
        net.table.deliver(3);
        net.table.deliver(4);
        net.deliver("GAP COMMIT", 0, 1);
        net.table.deliver(7);
        net.table.deliver(1);
        Check.due("a number below the log's end", net.state(1), "NORMAL 0/1 base 0 log 3 point 0 held 0 last 0/1 synced 0");
        Check.due("changes nothing there", net.log(1), "- 1.1 2.1");
        net.deliver("GAP COMMIT", 0, 2);
        int sent = net.table.about(1);
        net.table.deliver(2);
        Check.due("nor one at its end", net.state(2), "NORMAL 0/1 base 0 log 1 point 0 held 0 last 0/1 synced 0");
        Check.due("and nothing is sent", net.table.about(1), sent);
    }

    private static void theHundredthIsTaken() {
        Net net = new Net(3).grow(98).ask(0, Net.ADD, 0, 1);
        for (int k = 99; k <= 102; k++) {
            net.stamped(k, 0, 1).loseAll("STAMPED");
            Check.due("REPLYs", net.air(), k <= 100 ? "REPLY 0>0, REPLY 1>0" : "");
            net.loseAll().again(0);
        }
        Check.due("100 are taken", net.state(0), "NORMAL 0/1 base 0 log 100 point 0 held 2 last 0/1 synced 0");
        Check.due("of another one too", net.state(1), "NORMAL 0/1 base 0 log 100 point 0 held 2 last 0/1 synced 0");
        Check.due("the 100th is a request", net.table.entry(0, 100, 0) + net.table.entry(1, 100, 0), 2);
    }

    private static void stampedOfAnotherSession() {
        Net net = new Net(3);
        net.ask(0, Net.PUT, 0, 1).settle();
        net.ask(1, Net.PUT, 0, 2);
        net.table.install();
        net.table.again(1);
        int late = net.table.message(1, 0);
        net.table.deliver(net.table.message(4, 0));
        Check.due("a later session turns", net.state(1), "CHANGE 0/2 base 0 log 1 point 0 held 0 last 0/1 synced 0");
        net.table.deliver(late);
        Check.due("nothing of an earlier one", net.state(1), "CHANGE 0/2 base 0 log 1 point 0 held 0 last 0/1 synced 0");
        net.table.again(1);
        net.table.deliver(net.table.message(net.table.about(0) - 2, 0));
        Check.due("nothing is HELD in CHANGE", net.table.replica(1, 7), 0);
        net.table.suspect(2);
        net.table.install();
        net.table.again(1);
        net.table.deliver(net.table.message(net.table.about(0) - 1, 0));
        Check.due("the lead stays", net.table.replica(2, 2) * 10 + net.table.replica(2, 3), 13);
    }

    private static void aFullLogTakesNoMore() {
        Net net = new Net(3).grow(97).ask(0, Net.PUT, 0, 1);
        net.stamped(98, 0, 1).again(0).stamped(99, 0).loseAll();
        Check.due("99 and 98 entries", net.table.replica(0, 5) * 100 + net.table.replica(1, 5), 9998);
        net.table.again(0);
        net.loseAll();
        net.table.again(0);
        net.deliver("STAMPED", SEQ, 0);
        Check.due("the 100th is a NOTHING", net.state(0), "GAP 0/1 base 0 log 100 point 0 held 1 last 0/1 synced 0");
        net.lose("STAMPED", SEQ, 1).lose("STAMPED", SEQ, 2);
        net.deliver("GAP COMMIT", 0, 1);
        Check.due("beyond the next of another one", net.table.replica(1, 5), 98);
        net.table.again(0);
        net.deliver("STAMPED", SEQ, 1).deliver("LOOKUP", 1, 0).deliver("FOUND", 0, 1);
        Check.due("found, and the next looked up", net.air(), "GAP COMMIT 0>2, STAMPED *>0, STAMPED *>2, REPLY 1>0, LOOKUP 1>0");
        net.deliver("LOOKUP", 1, 0).deliver("GAP COMMIT", 0, 1);
        Check.due("full", net.state(1), "NORMAL 0/1 base 0 log 100 point 0 held 1 last 0/1 synced 0");
        Check.due("nothing more is missing", net.air(), "GAP COMMIT 0>2, STAMPED *>0, STAMPED *>2, REPLY 1>0, GAP REPLY 1>0");
        net.deliver("GAP REPLY", 1, 0);
        Check.due("of the leader too", net.state(0), "NORMAL 0/1 base 0 log 100 point 0 held 1 last 0/1 synced 0");
        net.loseAll();
        net.deliverNext(0);
        Check.due("slots above 100 are HELD", net.table.replica(0, 7), 2);
        Check.due("and not taken", net.table.replica(0, 5), 100);
        Check.due("nudge of a full one asks still", net.table.nudge(1), 1);
        net.deliver("LOOKUP", 1, 0);
        Check.due("which is not there", net.air(), "");
        Check.due("all of its entries are told", net.table.entry(0, 100, 0) * 10 + net.table.entry(0, 99, 0), 1);
        net.table.sync(0);
        net.settle();
        Check.due("a full log is synced", net.table.replica(1, 6), 100);
        net.table.suspect(1);
        net.settle();
        Check.due("and merged", net.state(2), "NORMAL 1/1 base 0 log 100 point 0 held 0 last 1/1 synced 0");
    }

    private static void lookupIsAnswered() {
        Net net = new Net(5);
        net.ask(0, Net.PUT, 0, 1).ask(1, Net.PUT, 0, 2).ask(2, Net.PUT, 0, 3);
        net.lose("STAMPED", SEQ, 1).deliver("STAMPED", SEQ, 1);
        net.deliver("LOOKUP", 1, 0);
        Check.due("no answer if it is not there", net.air(), "STAMPED *>0, STAMPED *>2, STAMPED *>3, STAMPED *>4, "
            + "STAMPED *>0, STAMPED *>2, STAMPED *>3, STAMPED *>4, STAMPED *>0, STAMPED *>1, STAMPED *>2, "
            + "STAMPED *>3, STAMPED *>4");
        net.table.nudge(1);
        net.lose("STAMPED", SEQ, 0).deliver("STAMPED", SEQ, 0).loseAll("STAMPED").loseAll("GAP COMMIT");
        net.deliver("LOOKUP", 1, 0);
        Check.due("a NOTHING, by a leader in GAP", net.air(), "GAP COMMIT 0>1");
        net.deliver("GAP COMMIT", 0, 1).deliver("GAP REPLY", 1, 0);
        Check.due("which is counted", net.state(0), "GAP 0/1 base 0 log 1 point 0 held 1 last 0/1 synced 0");
        Check.due("and goes on there", net.log(1), "- 1.1");

        Net change = new Net(3);
        change.ask(0, Net.PUT, 0, 1).ask(1, Net.PUT, 0, 2);
        change.lose("STAMPED", SEQ, 1).deliver("STAMPED", SEQ, 1).deliver("STAMPED", SEQ, 0);
        change.loseAll("STAMPED").loseAll("REPLY");
        change.deliver("LOOKUP", 1, 0);
        Check.due("a request", change.air(), "FOUND 0>1");
        change.table.nudge(1);
        change.table.suspect(0);
        change.loseAll("TURN").loseAll("TURNED").deliver("LOOKUP", 1, 0);
        Check.due("not after a change of the view", change.air(), "FOUND 0>1");
        Check.due("but what was found comes", change.deliver("FOUND", 0, 1).log(1), "0.1 1.1");
    }

    private static void foundTooLate() {
        Net net = new Net(3);
        net.ask(0, Net.PUT, 0, 1).ask(1, Net.PUT, 0, 2);
        net.deliver("STAMPED", SEQ, 0).deliver("STAMPED", SEQ, 0);
        net.table.deliver(4);
        net.deliver("LOOKUP", 1, 0).deliver("STAMPED", SEQ, 1).deliver("FOUND", 0, 1);
        Check.due("FOUND of what it has", net.log(1), "0.1 1.1");
        Check.due("is not HELD", net.table.replica(1, 7), 0);
        net.table.deliver(5);
        net.table.suspect(2);
        Check.due("nor does it come in CHANGE", net.state(2), "CHANGE 1/1 base 0 log 0 point 0 held 0 last 0/1 synced 0");
    }

    private static void leaderMissesOne() {
        Net net = new Net(5);
        net.ask(0, Net.PUT, 0, 1).ask(1, Net.PUT, 0, 2).ask(2, Net.PUT, 0, 3);
        net.lose("STAMPED", SEQ, 0).deliver("STAMPED", SEQ, 0);
        Check.due("the leader in GAP", net.state(0), "GAP 0/1 base 0 log 1 point 0 held 1 last 0/1 synced 0");
        Check.due("has a NOTHING", net.log(0), "-");
        net.deliver("STAMPED", SEQ, 0);
        Check.due("holds what comes", net.state(0), "GAP 0/1 base 0 log 1 point 0 held 2 last 0/1 synced 0");
        net.loseAll("STAMPED");
        Check.due("asks all others", net.air(), "GAP COMMIT 0>1, GAP COMMIT 0>2, GAP COMMIT 0>3, GAP COMMIT 0>4");
        net.table.nudge(0);
        net.deliver("GAP COMMIT", 0, 1).deliver("GAP COMMIT", 0, 1);
        net.deliver("GAP REPLY", 1, 0).deliver("GAP REPLY", 1, 0);
        Check.due("one that replies twice is one", net.table.replica(0, 1), 1);
        net.deliver("GAP COMMIT", 0, 4).deliver("GAP REPLY", 4, 0);
        Check.due("with F it goes on", net.state(0), "NORMAL 0/1 base 0 log 3 point 0 held 0 last 0/1 synced 0");
        Check.due("with what it held", net.log(0), "- 1.1 2.1");
        net.loseAll("GAP COMMIT");
        Check.due("and replies", net.air(), "REPLY 0>1, REPLY 0>2");
        net.ask(3, Net.PUT, 0, 4).loseAll("STAMPED");
        net.table.again(0);
        net.table.again(0);
        net.deliver("STAMPED", SEQ, 0);
        Check.due("in GAP once more", net.log(0), "- 1.1 2.1 -");
        net.deliver("STAMPED", SEQ, 1).loseAll("STAMPED").loseAll("LOOKUP");
        net.deliver("GAP COMMIT", 0, 1);
        Check.due("not the next one of another", net.log(1), "-");
    }

    private static void gapRepliesAreCountedAnew() {
        Net net = new Net(5);
        net.ask(0, Net.PUT, 0, 1).ask(1, Net.PUT, 0, 2).ask(2, Net.PUT, 0, 3).ask(3, Net.PUT, 0, 4);
        net.table.deliver(5);
        for (int r = 1; r < 3; r++) {
            net.deliver("GAP COMMIT", 0, r).deliver("GAP REPLY", r, 0).deliver("STAMPED", SEQ, r).deliver("STAMPED", SEQ, r);
        }
        net.table.deliver(15);
        Check.due("a second GAP", net.log(0) + " " + net.table.replica(0, 1), "- 1.1 - 1");
        net.deliver("GAP COMMIT", 0, 1).deliver("GAP REPLY", 1, 0);
        Check.due("one GAP REPLY of it", net.table.replica(0, 1), 1);
        net.deliver("GAP COMMIT", 0, 2).deliver("GAP REPLY", 2, 0);
        Check.due("two", net.log(0) + " " + net.table.replica(0, 1), "- 1.1 - 3.1 0");
    }

    private static void gapReplyOfAnotherSlot() {
        Net net = new Net(3);
        net.ask(0, Net.PUT, 0, 1).ask(1, Net.PUT, 0, 2).ask(2, Net.PUT, 0, 3).ask(3, Net.PUT, 0, 4);
        net.table.deliver(3);
        net.table.nudge(0);
        net.deliver("GAP COMMIT", 0, 1).deliver("GAP COMMIT", 0, 1).deliver("GAP REPLY", 1, 0);
        Check.due("one GAP is over", net.log(0), "- 1.1");
        net.table.deliver(9);
        Check.due("the next is open", net.state(0), "GAP 0/1 base 0 log 3 point 0 held 1 last 0/1 synced 0");
        net.deliver("GAP REPLY", 1, 0);
        Check.due("a GAP REPLY of the first", net.state(0), "GAP 0/1 base 0 log 3 point 0 held 1 last 0/1 synced 0");
    }

    private static void gapCommitOverARequest() {
        Net net = new Net(3);
        net.ask(0, Net.PUT, 0, 1).ask(1, Net.PUT, 0, 2);
        net.deliver("STAMPED", SEQ, 1).deliver("STAMPED", SEQ, 1);
        net.lose("STAMPED", SEQ, 0).deliver("STAMPED", SEQ, 0).loseAll("STAMPED").loseAll("REPLY");
        Check.due("before", net.log(1), "0.1 1.1");
        net.deliver("GAP COMMIT", 0, 1);
        Check.due("a request becomes a NOTHING", net.log(1), "- 1.1");
        Check.due("no REPLY comes of it", net.air(), "GAP COMMIT 0>2, GAP REPLY 1>0");
    }

    private static void gapCommitOverWhatIsHeld() {
        Net net = new Net(3);
        net.ask(0, Net.PUT, 0, 1).ask(1, Net.PUT, 0, 2).ask(2, Net.PUT, 0, 3).ask(3, Net.PUT, 0, 4);
        net.table.deliver(5);
        net.table.deliver(0);
        net.table.deliver(6);
        Check.due("the leader misses number 2", net.log(0), "0.1 -");
        net.table.deliver(8);
        net.table.deliver(11);
        Check.due("another one holds 2, 3 and 4", net.state(2), "NORMAL 0/1 base 0 log 0 point 0 held 3 last 0/1 synced 0");
        net.deliver("GAP COMMIT", 0, 2);
        Check.due("that is not the next slot", net.state(2), "NORMAL 0/1 base 0 log 0 point 0 held 3 last 0/1 synced 0");
        net.deliver("LOOKUP", 2, 0);
        net.deliver("FOUND", 0, 2);
        Check.due("the rest is taken", net.log(2), "0.1 1.1 2.1 3.1");
        net.table.nudge(0);
        net.deliver("GAP COMMIT", 0, 2);
        Check.due("and then put right", net.log(2), "0.1 - 2.1 3.1");

        Net held = new Net(3);
        held.ask(0, Net.PUT, 0, 1).ask(1, Net.PUT, 0, 2);
        for (int i = 0; i < 7; i++) {
            held.table.again(0);
        }
        for (int k = 2; k <= 9; k++) {
            held.table.deliver(3 * (k - 1) + 1);
        }
        held.table.deliver(3);
        Check.due("eight HELD before a NOTHING", held.table.replica(1, 7), 8);
        held.deliver("GAP COMMIT", 0, 1);
        Check.due("the NOTHING comes before them", held.log(1), "- 1.1 0.1 0.1 0.1 0.1 0.1 0.1 0.1");
    }

    private static void gapCommitBeyondTheNext() {
        Net net = new Net(3);
        net.ask(0, Net.PUT, 0, 1).ask(1, Net.PUT, 0, 2).ask(2, Net.PUT, 0, 3);
        net.deliver("STAMPED", SEQ, 0).lose("STAMPED", SEQ, 0).deliver("STAMPED", SEQ, 0);
        net.loseAll("STAMPED").loseAll("REPLY");
        net.deliver("GAP COMMIT", 0, 1);
        Check.due("nothing comes of it", net.log(1) + net.air(), "GAP COMMIT 0>2");
        net.table.suspect(2);
        net.deliver("GAP COMMIT", 0, 2);
        Check.due("nor in CHANGE", net.air(), "TURN 2>0, TURN 2>1, TURNED 2>1");
    }

    private static void gapCommitBelowPoint() {
        Net net = new Net(3);
        net.ask(0, Net.PUT, 0, 1).ask(1, Net.PUT, 0, 2);
        net.deliver("STAMPED", SEQ, 1).lose("STAMPED", SEQ, 0).deliver("STAMPED", SEQ, 0);
        net.table.nudge(0);
        net.deliver("GAP COMMIT", 0, 1).deliver("GAP REPLY", 1, 0);
        net.deliver("STAMPED", SEQ, 1);
        net.table.sync(0);
        net.deliver("SYNC", 0, 1).deliver("SYNC REPLY", 1, 0).deliver("POINT", 0, 1);
        Check.due("POINT and what is SYNCED", net.state(1), "NORMAL 0/1 base 0 log 2 point 2 held 0 last 0/1 synced 2");
        net.loseAll("STAMPED").loseAll("REPLY");
        net.deliver("GAP COMMIT", 0, 1);
        Check.due("a GAP COMMIT below it", net.air(), "GAP COMMIT 0>2, GAP COMMIT 0>2, SYNC 0>2, POINT 0>2, GAP REPLY 1>0");
        Check.due("changes neither", net.state(1), "NORMAL 0/1 base 0 log 2 point 2 held 0 last 0/1 synced 2");
    }

    private static void syncReplaces() {
        Net net = new Net(3);
        net.ask(0, Net.PUT, 0, 1).ask(1, Net.PUT, 0, 2).ask(2, Net.PUT, 0, 3);
        for (int i = 0; i < 3; i++) {
            net.deliver("STAMPED", SEQ, 1);
        }
        net.lose("STAMPED", SEQ, 0).deliver("STAMPED", SEQ, 0).deliver("GAP COMMIT", 0, 2).deliver("GAP REPLY", 2, 0);
        net.lose("GAP COMMIT", 0, 1).loseAll("STAMPED").loseAll("REPLY");
        net.table.sync(0);
        net.deliver("SYNC", 0, 1);
        Check.due("the first m are the leader's, the rest stays", net.log(1), "- 1.1 2.1");
        Check.due("SYNCED", net.state(1), "NORMAL 0/1 base 0 log 3 point 0 held 0 last 0/1 synced 2");
        Check.due("and told", net.air(), "SYNC 0>2, SYNC REPLY 1>0");

        Net order = new Net(3);
        order.table.sync(0);
        order.ask(0, Net.PUT, 0, 1).deliver("STAMPED", SEQ, 0).deliver("STAMPED", SEQ, 1).loseAll("STAMPED").loseAll("REPLY");
        order.table.sync(0);
        order.table.deliver(order.table.message(2, 0));
        Check.due("the later SYNC first", order.state(1), "NORMAL 0/1 base 0 log 1 point 0 held 0 last 0/1 synced 1");
        order.deliver("SYNC", 0, 1);
        Check.due("it stays SYNCED", order.state(1), "NORMAL 0/1 base 0 log 1 point 0 held 0 last 0/1 synced 1");
        Check.due("SYNC REPLY in any case", order.air(), "SYNC 0>2, SYNC 0>2, SYNC REPLY 1>0, SYNC REPLY 1>0");
        order.table.deliver(order.table.message(3, 0));
        Check.due("m 0 is not above POINT", order.table.replica(0, 6), 0);
        order.deliver("SYNC REPLY", 1, 0);
        Check.due("m 1 is", order.table.replica(0, 6), 1);
        Check.due("POINT is told", order.air(), "SYNC 0>2, SYNC 0>2, POINT 0>1, POINT 0>2");
    }

    private static void syncOfMoreThanThere() {
        Net net = new Net(3);
        net.ask(0, Net.PUT, 0, 1).deliver("STAMPED", SEQ, 0).loseAll();
        net.table.sync(0);
        net.deliver("SYNC", 0, 1);
        Check.due("it has not m", net.state(1) + net.air(), "NORMAL 0/1 base 0 log 0 point 0 held 0 last 0/1 synced 0SYNC 0>2");
        net.table.suspect(2);
        net.loseAll("TURN").loseAll("TURNED").deliver("SYNC", 0, 2);
        Check.due("it is in another view", net.air(), "");
    }

    private static void syncRepliesAreCountedForOneM() {
        Net net = new Net(5);
        net.ask(0, Net.PUT, 0, 1).settle();
        net.table.sync(0);
        net.table.sync(0);
        net.ask(1, Net.PUT, 0, 2).deliver("STAMPED", SEQ, 0);
        for (int r = 1; r < 5; r++) {
            net.deliver("STAMPED", SEQ, r);
        }
        net.table.sync(0);
        net.loseAll("REPLY");
        for (int i = 0; i < 3; i++) {
            for (int r = 1; r < 5; r++) {
                net.deliver("SYNC", 0, r);
            }
        }
        net.deliver("SYNC REPLY", 1, 0).deliver("SYNC REPLY", 1, 0);
        Check.due("one that replies twice is one", net.table.replica(0, 6), 0);
        net.lose("SYNC REPLY", 2, 0).lose("SYNC REPLY", 2, 0).deliver("SYNC REPLY", 2, 0);
        Check.due("2 has said m 2, 1 had said m 1", net.table.replica(0, 6), 0);
        net.deliver("SYNC REPLY", 3, 0);
        Check.due("3 says m 1, counted anew", net.table.replica(0, 6), 0);
        net.deliver("SYNC REPLY", 4, 0);
        Check.due("4 says m 1 too", net.table.replica(0, 6), 1);
        Check.due("POINT is sent once", net.loseAll("SYNC REPLY").air(), "POINT 0>1, POINT 0>2, POINT 0>3, POINT 0>4");
        net.loseAll();
        net.table.sync(0);
        net.deliver("SYNC", 0, 1).deliver("SYNC REPLY", 1, 0);
        Check.due("m 2 is counted anew", net.table.replica(0, 6), 1);
        net.ask(2, Net.PUT, 0, 3).ask(3, Net.PUT, 0, 4).lose("STAMPED", SEQ, 0).deliver("STAMPED", SEQ, 0);
        Check.due("the leader in GAP", net.table.replica(0, 1), 1);
        net.deliver("SYNC", 0, 2).deliver("SYNC REPLY", 2, 0);
        Check.due("counts on", net.table.replica(0, 6), 2);
    }

    private static void pointNeedsSynced() {
        Net net = new Net(5);
        net.ask(0, Net.PUT, 0, 1).settle();
        net.table.sync(0);
        net.deliver("SYNC", 0, 1).deliver("SYNC", 0, 2).deliver("SYNC REPLY", 1, 0).deliver("SYNC REPLY", 2, 0);
        net.deliver("POINT", 0, 3).deliver("POINT", 0, 1);
        Check.due("SYNCED", net.state(1), "NORMAL 0/1 base 0 log 1 point 1 held 0 last 0/1 synced 1");
        Check.due("not SYNCED", net.state(3), "NORMAL 0/1 base 0 log 1 point 0 held 0 last 0/1 synced 0");
        net.table.suspect(2);
        net.deliver("POINT", 0, 2);
        Check.due("in another view", net.state(2), "CHANGE 1/1 base 0 log 1 point 0 held 0 last 0/1 synced 0");
    }

    private static void turnsToJoinedViews() {
        Net net = new Net(3);
        net.table.suspect(2);
        net.table.suspect(2);
        net.table.install();
        net.ask(0, Net.PUT, 0, 1).deliver("STAMPED", SEQ, 0);
        net.loseAll("STAMPED").loseAll("TURNED");
        Check.due("two views of which none is behind", net.state(0) + ", " + net.state(2),
            "CHANGE 0/2 base 0 log 0 point 0 held 0 last 0/1 synced 0, "
            + "CHANGE 2/1 base 0 log 0 point 0 held 0 last 0/1 synced 0");
        net.deliver("TURN", 2, 0);
        Check.due("are joined", net.state(0), "CHANGE 1/2 base 0 log 0 point 0 held 0 last 0/1 synced 0");
        net.deliver("TURN", 2, 0);
        Check.due("as often as they come", net.state(0), "CHANGE 2/2 base 0 log 0 point 0 held 0 last 0/1 synced 0");
        net.loseAll("TURNED");
        int sent = net.table.about(1);
        net.deliver("TURN", 0, 2);
        Check.due("on both sides", net.state(2), "CHANGE 2/2 base 0 log 0 point 0 held 0 last 0/1 synced 0");
        Check.due("with TURN and, to itself, no TURNED", net.table.about(1) - sent, 2);
        net.deliver("TURN", 0, 2).deliver("TURN", 0, 2);
        Check.due("of one behind and of its own nothing comes", net.table.about(1) - sent, 2);
        net.table.suspect(1);
        net.deliver("TURN", 0, 1).deliver("TURN", 0, 1);
        Check.due("behind in one only", net.table.replica(1, 2) * 10 + net.table.replica(1, 3), 12);
    }

    private static void turnedTurnsAndCounts() {
        Net net = new Net(3);
        net.ask(0, Net.PUT, 0, 1).deliver("STAMPED", SEQ, 2).loseAll();
        net.table.suspect(2);
        net.lose("TURN", 2, 0).lose("TURN", 2, 1).deliver("TURNED", 2, 1);
        Check.due("it turns, counts and merges", net.state(1), "NORMAL 1/1 base 0 log 1 point 0 held 0 last 1/1 synced 0");
        Check.due("all at once", net.air(), "TURN 1>0, TURN 1>2, START 1>0, START 1>2");
        Check.due("what the other one had", net.log(1), "0.1");

        Net joined = new Net(3);
        joined.table.install();
        joined.ask(0, Net.PUT, 0, 1).deliver("STAMPED", SEQ, 1).loseAll();
        joined.table.suspect(2);
        joined.deliver("TURNED", 2, 1);
        Check.due("a TURNED of a joined view is not counted", joined.state(1),
            "CHANGE 1/2 base 0 log 0 point 0 held 0 last 0/1 synced 0");
        joined.table.suspect(0);
        joined.deliver("TURNED", 0, 1);
        Check.due("nor one that is behind", joined.state(1), "CHANGE 1/2 base 0 log 0 point 0 held 0 last 0/1 synced 0");
    }

    private static void turnedIsCountedOnceAndTheLatest() {
        Net net = new Net(5);
        net.table.suspect(3);
        net.table.nudge(3);
        net.deliver("TURNED", 3, 1).deliver("TURNED", 3, 1);
        Check.due("one that has turned twice is one", net.table.replica(1, 1), 2);
        net.table.suspect(4);
        net.deliver("TURNED", 4, 1);
        Check.due("F others", net.state(1), "NORMAL 1/1 base 0 log 0 point 0 held 0 last 1/1 synced 0");
    }

    private static void startIsSentAgain() {
        Net net = new Net(3);
        net.table.suspect(2);
        net.deliver("TURNED", 2, 1).deliver("TURN", 1, 0).loseAll("TURN").loseAll("START");
        net.deliver("TURNED", 0, 1);
        Check.due("to the one whose TURNED came late", net.air(), "START 1>0");
        net.ask(0, Net.PUT, 0, 1).ask(1, Net.PUT, 0, 1).lose("STAMPED", SEQ, 1).deliver("STAMPED", SEQ, 1);
        net.loseAll();
        net.table.nudge(0);
        net.deliver("TURNED", 0, 1);
        Check.due("in GAP too", net.air(), "TURN 0>1, TURN 0>2, START 1>0");
        net.deliver("START", 1, 0);
        Check.due("with the log as it is", net.log(0) + " " + net.state(0),
            "- NORMAL 1/1 base 0 log 1 point 0 held 0 last 1/1 synced 0");
        net.deliver("TURN", 0, 1);
        Check.due("TURN of its view turns nobody", net.table.replica(1, 1), 1);
    }

    private static void startBringsAllAndTakesNothing() {
        Net net = new Net(3);
        net.ask(0, Net.PUT, 0, 1).settle();
        net.table.sync(0);
        net.settle();
        net.table.install();
        net.ask(1, Net.PUT, 0, 2).deliver("STAMPED", SEQ, 0).loseAll("STAMPED");
        net.table.again(1);
        net.deliver("TURN", 0, 1).deliver("TURNED", 1, 0);
        net.loseAll("TURN");
        Check.due("a leader of a new session", net.state(0), "NORMAL 0/2 base 1 log 1 point 1 held 0 last 0/2 synced 0");
        net.deliver("START", 0, 2);
        Check.due("one that was behind", net.state(2), "NORMAL 0/2 base 1 log 1 point 1 held 0 last 0/2 synced 0");
        net.deliver("STAMPED", SEQ, 2);
        Check.due("holds number 2 of it", net.state(2), "NORMAL 0/2 base 1 log 1 point 1 held 1 last 0/2 synced 0");
        net.deliver("START", 0, 1);
        Check.due("one in CHANGE", net.state(1), "NORMAL 0/2 base 1 log 1 point 1 held 0 last 0/2 synced 0");
        net.table.nudge(0);
        net.ask(2, Net.PUT, 0, 3).deliver("STAMPED", SEQ, 1);
        net.loseAll();
        Check.due("POINT stays, the words too", net.table.word(1, 0), 1);
        net.table.suspect(2);
        net.table.suspect(2);
        net.table.suspect(1);
        net.table.suspect(1);
        net.deliver("TURNED", 1, 2).deliver("START", 2, 0).deliver("START", 2, 1);
        Check.due("BASE of an old session is kept in it", net.state(0), "NORMAL 2/2 base 1 log 1 point 1 held 0 last 2/2 synced 0");
        net.deliver("TURN", 2, 1);
        Check.due("a START of a view that it is NORMAL in", net.state(1), "NORMAL 2/2 base 1 log 1 point 1 held 0 last 2/2 synced 0");
    }

    private static void startForgetsWhatIsHeld() {
        Net net = new Net(3);
        net.ask(0, Net.PUT, 0, 1).ask(1, Net.PUT, 0, 2);
        net.lose("STAMPED", SEQ, 0).deliver("STAMPED", SEQ, 0);
        net.loseAll();
        Check.due("in GAP with one HELD", net.state(0), "GAP 0/1 base 0 log 1 point 0 held 1 last 0/1 synced 0");
        net.table.suspect(2);
        net.deliver("TURNED", 2, 1).deliver("START", 1, 0);
        Check.due("START ends both", net.state(0), "NORMAL 1/1 base 0 log 0 point 0 held 0 last 1/1 synced 0");
    }

    private static void messagesOfOtherViews() {
        Net net = new Net(3);
        net.ask(0, Net.PUT, 0, 1).deliver("STAMPED", SEQ, 0).deliver("STAMPED", SEQ, 1).deliver("STAMPED", SEQ, 2).loseAll();
        net.table.sync(0);
        net.deliver("SYNC", 0, 1);
        net.table.suspect(2);
        net.deliver("TURNED", 2, 1).deliver("START", 1, 0).deliver("START", 1, 2);
        Check.due("SYNCED is gone", net.state(1), "NORMAL 1/1 base 0 log 1 point 0 held 0 last 1/1 synced 0");
        net.deliver("SYNC REPLY", 1, 0).deliver("SYNC", 0, 2);
        Check.due("a SYNC of the old view", net.state(2), "NORMAL 1/1 base 0 log 1 point 0 held 0 last 1/1 synced 0");
        Check.due("a SYNC REPLY of it", net.state(0), "NORMAL 1/1 base 0 log 1 point 0 held 0 last 1/1 synced 0");
        Check.due("are gone", net.air(), "TURN 2>0, TURN 2>1, TURN 1>0, TURN 1>2");
        net.settle();
        net.table.suspect(0);
        net.deliver("TURNED", 0, 2).loseAll("TURN");
        net.table.suspect(1);
        net.table.suspect(1);
        net.deliver("START", 2, 1);
        Check.due("a START that is behind", net.state(1), "CHANGE 3/1 base 0 log 1 point 0 held 0 last 1/1 synced 0");
    }

    private static void repliesOnlyOfTheLatest() {
        Net net = new Net(3);
        net.ask(0, Net.ADD, 0, 5).loseAll();
        net.table.again(0);
        net.table.again(0);
        net.table.deliver(3);
        Check.due("the leader has a gap", net.state(0), "GAP 0/1 base 0 log 1 point 0 held 1 last 0/1 synced 0");
        net.deliver("GAP COMMIT", 0, 1).deliver("GAP REPLY", 1, 0).deliver("STAMPED", SEQ, 1).deliver("REPLY", 0, 0).deliver("REPLY", 1, 0);
        Check.due("accepted", net.client(0), "2 slot 2 view 0/1 answer 0");
        int last = net.table.message(net.table.about(0) - 1, 0);
        Check.due("one of it is still on its way", net.air(), "STAMPED *>2, STAMPED *>0, STAMPED *>1, STAMPED *>2, GAP COMMIT 0>2");
        net.table.lose(last);
        net.ask(0, Net.ADD, 0, 6);
        net.table.deliver(net.table.message(4, 0));
        Check.due("the next request is HELD", net.log(0), "- 0.1 -");
        net.deliver("GAP COMMIT", 0, 1).deliver("GAP REPLY", 1, 0);
        Check.due("and taken", net.log(0), "- 0.1 - 0.2");

        Net old = new Net(3);
        old.ask(0, Net.ADD, 0, 5);
        old.table.again(0);
        old.deliver("STAMPED", SEQ, 0).deliver("STAMPED", SEQ, 1).deliver("REPLY", 0, 0).deliver("REPLY", 1, 0);
        old.ask(0, Net.ADD, 0, 6);
        old.deliver("STAMPED", SEQ, 0).deliver("STAMPED", SEQ, 1);
        old.loseAll("STAMPED");
        Check.due("it is the latest executed one still", old.air(), "REPLY 0>0, REPLY 1>0");
        old.settle();
        Check.due("but not open", old.client(0), "1 slot -1 view -1/-1 answer 0");
        old.table.again(0);
        old.deliver("STAMPED", SEQ, 0);
        Check.due("number 3 is missing", old.table.replica(0, 1), 1);
        overtaken();
    }

    /** A request that comes to the log once more behind its client's next one. */
    private static void overtaken() {
        Net net = new Net(3);
        net.ask(0, Net.ADD, 0, 5).ask(1, Net.ADD, 0, 7).settle();
        net.ask(0, Net.ADD, 0, 6);
        net.table.again(0);
        net.settle();
        Check.due("accepted in the first slot", net.log(0) + ", " + net.client(0), "0.1 1.1 0.2 0.2, 2 slot 3 view 0/1 answer 12");
        net.ask(0, Net.GET, 0, 0);
        net.table.suspect(1);
        net.deliver("TURN", 1, 0).deliver("TURNED", 0, 1).deliver("START", 1, 0).deliver("START", 1, 2);
        net.deliver("STAMPED", SEQ, 0).deliver("STAMPED", SEQ, 1);
        net.loseAll("TURN").loseAll("STAMPED").loseAll("TURNED");
        Check.due("in the next view the other one leads", net.air(), "REPLY 0>0, REPLY 1>0");
        net.deliver("REPLY", 0, 0);
        Check.due("not without it", net.client(0), "1 slot -1 view -1/-1 answer 12");
        net.deliver("REPLY", 1, 0);
        Check.due("with it", net.client(0), "2 slot 5 view 1/1 answer 18");
    }

    private static void acceptedOnlyWithTheLeader() {
        Net net = new Net(5);
        net.ask(0, Net.PUT, 0, 1);
        for (int r = 0; r < 5; r++) {
            net.deliver("STAMPED", SEQ, r);
        }
        for (int r = 1; r < 5; r++) {
            net.deliver("REPLY", r, 0);
        }
        Check.due("all but the leader", net.client(0), "1 slot -1 view -1/-1 answer 0");
        net.deliver("REPLY", 0, 0);
        Check.due("and the leader", net.client(0), "2 slot 1 view 0/1 answer 0");
        Check.due("once", net.table.about(6), 1);
        net.ask(0, Net.GET, 0, 0);
        net.deliver("STAMPED", SEQ, 0).deliver("REPLY", 0, 0);
        net.deliver("STAMPED", SEQ, 1).deliver("REPLY", 1, 0);
        Check.due("F with the leader", net.client(0), "1 slot -1 view -1/-1 answer 0");
        net.deliver("STAMPED", SEQ, 2).deliver("REPLY", 2, 0);
        Check.due("F + 1", net.client(0), "2 slot 2 view 0/1 answer 1");
        net.settle();
        Check.due("later ones change nothing", net.client(0) + " " + net.table.about(6), "2 slot 2 view 0/1 answer 1 2");

        Net slots = new Net(3);
        slots.ask(0, Net.PUT, 0, 1);
        slots.table.again(0);
        slots.deliver("STAMPED", SEQ, 1).deliver("REPLY", 1, 0);
        slots.deliver("STAMPED", SEQ, 0).lose("REPLY", 0, 0);
        slots.deliver("STAMPED", SEQ, 0).deliver("REPLY", 0, 0);
        Check.due("replies of two slots", slots.table.client(0, 1), 1);
        slots.deliver("STAMPED", SEQ, 1).deliver("REPLY", 1, 0);
        Check.due("of one slot", slots.client(0), "2 slot 2 view 0/1 answer 0");
    }

    private static void placesAreForgotten() {
        Net net = new Net(3).ask(0, Net.PUT, 0, 1);
        Table t = net.table;
        for (int i = 0; i < 65; i++) {
            if (i > 0) {
                t.again(0);
            }
            t.deliver(4 * i + 1);
            t.deliver(4 * i + 3);
            t.lose(4 * i + 2);
        }
        Check.due("65 places have come", t.replica(1, 5) + " " + t.about(0), "65 65");
        net.stamped(1, 0);
        t.deliver(4);
        t.deliver(8);
        Check.due("the leader's REPLYs of slots 1 to 3", t.about(1) + " " + t.message(64, 0), "263 262");
        t.deliver(260);
        Check.due("the first one is forgotten", t.client(0, 1), 1);
        t.deliver(261);
        Check.due("with it coming again the second", t.client(0, 1), 1);
        t.lose(262);
        t.deliver(12);
        t.deliver(263);
        Check.due("the fourth is there", net.client(0), "2 slot 4 view 0/1 answer 0");
        net.settle();
        net.ask(0, Net.GET, 0, 0).settle();
        Check.due("the next request counts its own", net.client(0), "2 slot 66 view 0/1 answer 1");
    }
}
