/**
 * The boundary cases of "Terms", sentence by sentence: what there is, the air, requests, the sequencer,
 * views, logs, what is EXECUTED and how a replica TAKES.
 */
final class EdgesOfTermsTest {
    private static final int[] SIZES = {3, 5, 7};
    private static final int MIN = Integer.MIN_VALUE;
    private static final int MAX = Integer.MAX_VALUE;
    private static final Class<IndexOutOfBoundsException> OUTSIDE = IndexOutOfBoundsException.class;
    private static final Class<IllegalArgumentException> BAD = IllegalArgumentException.class;
    private static final Class<IllegalStateException> STATE = IllegalStateException.class;

    public static void main(String[] args) {
        replicas();
        clients();
        keys();
        messagesAreNumbered();
        messagesAreThereUntilDelivered();
        twoHundredLieThere();
        aFullAirLosesWhatReplicasSend();
        oneDownLoses();
        allOthers();
        requestsAreNumbered();
        sequencerAtFirst();
        stamping();
        sequencerNotUp();
        viewAtFirst();
        leaderIsModulo();
        behindAnotherOne();
        joined();
        replicaAtFirst();
        slotsOfNumbers();
        slotsOfALaterSession();
        executedByALeader();
        executedUpToPoint();
        numberNotAbove();
        numberAbove();
        wordsRunOver();
        takesWhatIsNext();
        takesTheHundredth();
        takesNoHundredAndFirst();
        theHundredthIsMissing();
        nothingIsMissingInAFullLog();
        nothingIsMissingWithoutHeld();
        repliesOfARepeatedRequest();
        syncRepliesNotAnew();
        gapRepliesAnew();
        Check.end();
    }

    private static void replicas() {
        Check.says("REPLICAS 0 .. N - 1 (N is 3, 5 or 7; F is N / 2, cut)");
        for (int n : SIZES) {
            Table t = new Net(n).table;
            Check.due("of " + n + " one before the first", t.replica(-1, 1), -1);
            Check.due("of " + n + " the first", t.replica(0, 1), 0);
            Check.due("of " + n + " the last", t.replica(n - 1, 1), 0);
            Check.due("of " + n + " one beyond the last", t.replica(n, 1), -1);
            for (int r = 0; r < n / 2; r++) {
                t.down(r);
            }
            Check.due("of " + n + " F are DOWN", t.replica(n / 2 - 1, 0) * 10 + t.replica(n / 2, 0), 10);
            Check.raises("of " + n + " one more than F DOWN", STATE, () -> t.down(n / 2));
        }
    }

    private static void clients() {
        Check.says("CLIENTS 0 .. 3");
        Table t = new Net(3).table;
        Check.raises("client -1", OUTSIDE, () -> t.request(-1, 0, 0, 0));
        Check.due("client 0", t.request(0, 0, 0, 0), 1);
        Check.due("client 3", t.request(3, 0, 0, 0), 1);
        Check.raises("client 4", OUTSIDE, () -> t.request(4, 0, 0, 0));
        Check.due("clients -1 and 4 are none", t.client(-1, 0) + t.client(4, 0), -2);
        Check.due("clients 0 to 3", t.client(0, 0) + t.client(1, 0) * 10 + t.client(2, 0) * 10 + t.client(3, 0), 2);
    }

    private static void keys() {
        Check.says("KEYS 0 .. 7, each with a word, 0 at first.");
        Net net = new Net(3);
        Table t = net.table;
        for (int key = 0; key <= 7; key++) {
            Check.due("key " + key + " at first", t.word(0, key), 0);
        }
        Check.raises("key -1", OUTSIDE, () -> t.request(0, 1, -1, 5));
        Check.raises("key 8", OUTSIDE, () -> t.request(0, 1, 8, 5));
        net.ask(0, Net.PUT, 0, 5).ask(1, Net.PUT, 7, 6).settle();
        int[] want = {5, 0, 0, 0, 0, 0, 0, 6};
        for (int key = 0; key <= 7; key++) {
            Check.due("key " + key + " then", t.word(0, key), want[key]);
        }
        Check.due("the word of no key", t.word(0, -1) + t.word(0, 8), 0);
        net.ask(2, Net.ADD, 3, 5).ask(3, Net.GET, 3, 0).settle();
        Check.due("ADD grows the first word", t.word(0, 3), 5);
        Check.due("an ANSWER of the first word", t.answer(2), 0);
    }

    private static void messagesAreNumbered() {
        Check.says("numbered from 0 on as it is sent");
        Table t = new Net(3).table;
        Check.raises("number 0 before it is sent", BAD, () -> t.deliver(0));
        t.request(0, 0, 0, 0);
        Check.due("the first", t.message(0, 0), 0);
        Check.due("the second and the third", t.message(1, 0) * 10 + t.message(2, 0), 12);
        Check.raises("number 3 before it is sent", BAD, () -> t.deliver(3));
        t.deliver(2);
        Check.due("a REPLY has the next number", t.message(2, 0) * 100 + t.message(2, 1), 311);
        t.request(1, 0, 0, 0);
        Check.due("no number is used again", t.message(3, 0), 4);
        t.deliver(3);
        t.deliver(0);
        Check.due("the order is that of the numbers", t.message(0, 0) * 10 + t.message(1, 0), 14);
    }

    private static void messagesAreThereUntilDelivered() {
        Check.says("until it is delivered or lost");
        Table t = new Net(3).table;
        t.request(0, 0, 0, 0);
        t.deliver(0);
        Check.raises("delivered, and delivered again", BAD, () -> t.deliver(0));
        Check.raises("delivered, and lost", BAD, () -> t.lose(0));
        t.lose(1);
        Check.raises("lost, and delivered", BAD, () -> t.deliver(1));
        Check.raises("lost, and lost again", BAD, () -> t.lose(1));
        Check.due("the third is there still", t.message(0, 0), 2);
        t.flow(1);
        Check.raises("delivered by flow", BAD, () -> t.deliver(2));
        Check.due("what came by the first is there", t.message(0, 0), 3);
    }

    private static void twoHundredLieThere() {
        Check.says("At most 200 lie there: what is sent beyond is lost at once (and has its number).");
        Net net = new Net(5).ask(0, Net.GET, 0, 0);
        Table t = net.table;
        for (int i = 0; i < 39; i++) {
            t.again(0);
        }
        Check.due("200 lie there", t.about(0), 200);
        Check.due("none of 200 is lost", t.about(2), 0);
        Check.due("the last of 200", t.message(199, 0), 199);
        Check.due("none lies beyond", t.message(200, 0), -1);
        t.again(0);
        Check.due("no more lie there", t.about(0), 200);
        Check.due("five are sent", t.about(1), 205);
        Check.due("and lost", t.about(2), 5);
        Check.raises("number 200 is not there", BAD, () -> t.deliver(200));
        Check.raises("number 204 is not there", BAD, () -> t.lose(204));
        t.lose(7);
        Check.due("one place is free", t.about(0), 199);
        t.again(0);
        Check.due("the next that is sent has it", t.message(199, 0) * 10 + t.message(199, 3), 2050);
        Check.due("the four behind it are lost", t.about(2), 5 + 1 + 4);
        Check.due("200 again", t.about(0), 200);
        t.lose(0);
        t.lose(1);
        t.again(0);
        Check.due("two places", t.message(198, 3) * 10 + t.message(199, 3), 1);
        Check.due("with numbers 210 and 211", t.message(198, 0) + t.message(199, 0), 421);
    }

    private static void aFullAirLosesWhatReplicasSend() {
        Check.says("what is sent beyond is lost at once");
        Net net = new Net(5).ask(0, Net.PUT, 0, 4).stamped(1, 0, 1).loseAll().ask(1, Net.PUT, 0, 5);
        Table t = net.table;
        for (int i = 0; i < 39; i++) {
            t.again(1);
        }
        int sent = t.about(1);
        int lost = t.about(2);
        t.sync(0);
        Check.due("SYNC in a full air", (t.about(1) - sent) * 10 + t.about(2) - lost, 44);
        t.suspect(4);
        Check.due("a TURN in a full air", (t.about(1) - sent) * 10 + t.about(2) - lost, 99);
        Check.due("is one all the same", net.state(4), "CHANGE 1/1 base 0 log 0 point 0 held 0 last 0/1 synced 0");
        net.stamped(2, 0);
        Check.due("a REPLY has the place of what was delivered", t.message(199, 1) * 10 + t.message(199, 2), 110);
        t.lose(t.message(0, 0));
        t.lose(t.message(0, 0));
        t.suspect(3);
        Check.due("two places for five: TURN 3>0, TURN 3>1", t.message(198, 3) * 10 + t.message(199, 3), 1);
        Check.due("both by 3", t.message(198, 2) * 10 + t.message(199, 2), 33);
        Check.due("three are lost", t.about(2) - lost, 9 + 2 + 3);
    }

    private static void oneDownLoses() {
        Check.says("What is delivered to a replica that is DOWN is lost (it is gone from the air).");
        Net net = new Net(3).ask(0, Net.PUT, 0, 4);
        Table t = net.table;
        t.down(2);
        t.deliver(2);
        Check.due("gone from the air", t.about(0), 2);
        Check.due("lost", t.about(2), 1);
        Check.raises("it comes no more", BAD, () -> t.deliver(2));
        t.up(2);
        Check.due("nothing came of it", net.state(2), "NORMAL 0/1 base 0 log 0 point 0 held 0 last 0/1 synced 0");
        t.deliver(1);
        t.down(1);
        t.deliver(3);
        Check.due("what one that is DOWN has sent before is not lost", t.about(2), 1);
        net.again(0);
        t.up(1);
        net.stamped(2, 1);
        Check.due("nor what comes when it is up again", t.replica(1, 5) * 10 + t.about(2), 21);
        t.down(2);
        Check.due("flow loses it too", t.flow(40) * 10 + t.about(2), 62);
    }

    private static void allOthers() {
        Check.says("To ALL OTHERS is sent in the order of their numbers.");
        Net net = new Net(5);
        net.table.sync(0);
        Check.due("by the first", net.air(), "SYNC 0>1, SYNC 0>2, SYNC 0>3, SYNC 0>4");
        net.loseAll().table.suspect(2);
        Check.due("by one between", net.air(), "TURN 2>0, TURN 2>1, TURN 2>3, TURN 2>4, TURNED 2>1");
        net.loseAll().table.suspect(4);
        Check.due("by the last", net.air(), "TURN 4>0, TURN 4>1, TURN 4>2, TURN 4>3, TURNED 4>1");
        net.table.nudge(2);
        net.deliver("TURNED", 4, 1).deliver("TURNED", 2, 1).loseAll("TURN");
        Check.due("by the second", net.air(), "START 1>0, START 1>2, START 1>3, START 1>4");
    }

    private static void requestsAreNumbered() {
        Check.says("A REQUEST of a client has a number (its first one 1, and so on)");
        Net net = new Net(3);
        Table t = net.table;
        Check.due("none", t.client(3, 0), 0);
        Check.due("the first of client 3", t.request(3, 0, 0, 0), 1);
        Check.due("the first of client 2", t.request(2, 0, 0, 0), 1);
        net.settle();
        Check.due("the second of client 3", t.request(3, 0, 0, 0), 2);
        net.again(3).settle();
        Check.due("the third: again has none", t.request(3, 0, 0, 0), 3);
        Check.due("the numbers in the log", net.log(0), "3.1 2.1 3.2 3.2");
    }

    private static void sequencerAtFirst() {
        Check.says("THE SEQUENCER, if it is up, has a SESSION, 1 at first, and a COUNT, 0 at first.");
        Net net = new Net(3);
        Table t = net.table;
        Check.due("it is up", t.about(3), 1);
        Check.due("SESSION", t.about(4), 1);
        Check.due("COUNT", t.about(5), 0);
        net.ask(0, Net.PUT, 0, 4).stamped(1, 1);
        Check.due("the first number is the first slot's, of the replicas' session", net.state(1),
            "NORMAL 0/1 base 0 log 1 point 0 held 0 last 0/1 synced 0");
    }

    private static void stamping() {
        Check.says("COUNT becomes one more, and STAMPED (SESSION, COUNT, the request) is sent to each replica, from 0 on.");
        Net net = new Net(7).ask(0, Net.PUT, 0, 4);
        Check.due("COUNT", net.table.about(5), 1);
        Check.due("to each", net.air(), "STAMPED *>0, STAMPED *>1, STAMPED *>2, STAMPED *>3, STAMPED *>4, "
            + "STAMPED *>5, STAMPED *>6");
        net.again(0);
        Check.due("COUNT then", net.table.about(5), 2);
        net.stamped(2, 6);
        Check.due("the second is not number 1", net.table.replica(6, 7), 1);
        net.stamped(1, 6);
        Check.due("the first is", net.log(6), "0.1 0.1");
        for (int i = 0; i < 300; i++) {
            net.table.again(0);
        }
        Check.due("COUNT goes on when the air is full", net.table.about(5), 302);
    }

    private static void sequencerNotUp() {
        Check.says("While it is not up nothing comes of a request that should be stamped.");
        Net net = new Net(3).ask(0, Net.PUT, 0, 4);
        Table t = net.table;
        t.fail();
        Check.due("the request is one", t.request(1, Net.PUT, 0, 5) * 10 + t.client(1, 1), 11);
        t.again(1);
        t.again(0);
        Check.due("COUNT stays", t.about(5), 1);
        Check.due("nothing is sent", t.about(1), 3);
        net.settle();
        Check.due("what was stamped before comes", net.log(0) + ", " + net.log(2), "0.1, 0.1");
        Check.due("the other one stays open", t.client(1, 1), 1);
        t.install();
        net.again(1);
        Check.due("until one is up", net.air(), "STAMPED *>0, STAMPED *>1, STAMPED *>2");
        Check.due("that counts from 1", t.about(5), 1);
    }

    private static void viewAtFirst() {
        Check.says("A VIEW is a lead L and a session S, at first 0 and 1");
        for (int n : SIZES) {
            Table t = new Net(n).table;
            for (int r = 0; r < n; r++) {
                Check.due("replica " + r + " of " + n, t.replica(r, 2) * 10 + t.replica(r, 3), 1);
            }
            t.sync(0);
            Check.raises("replica 1 does not lead", STATE, () -> t.sync(1));
            Check.raises("the last one does not", STATE, () -> t.sync(n - 1));
        }
    }

    private static void leaderIsModulo() {
        Check.says("its LEADER is replica L modulo N");
        for (int n : SIZES) {
            Net net = new Net(n);
            for (int lead = 1; lead <= 2 * n; lead++) {
                net.table.suspect(1);
                int itself = lead % n == 1 ? 1 : 0;
                int messages = n - 1 + (1 - itself);
                Check.due(n + " replicas, L " + lead + ": sent", net.table.about(0), messages);
                Check.due("TURNED comes last", net.table.message(messages - 1, 1), itself == 1 ? 8 : 9);
                Check.due("to the leader", net.table.message(messages - 1, 3), itself == 1 ? n - 1 : lead % n);
                Check.due("L is not cut", net.table.replica(1, 2), lead);
                net.loseAll();
            }
        }
    }

    /** Replica 1 of five is in view v, and a TURN to view w comes: the view in which it is then. */
    private static String turned(int[] v, int[] w) {
        Net net = new Net(5).toView(1, v[0], v[1]).toView(2, w[0], w[1]);
        net.table.nudge(2);
        net.deliver("TURN", 2, 1);
        return net.table.replica(1, 2) + "/" + net.table.replica(1, 3);
    }

    private static void behindAnotherOne() {
        Check.says("It is BEHIND another one if L or S is less and neither is more.");
        Check.due("L is less", turned(new int[] {2, 1}, new int[] {1, 1}), "2/1");
        Check.due("L is less, of session 2", turned(new int[] {2, 2}, new int[] {1, 2}), "2/2");
        Check.due("S is less", turned(new int[] {1, 2}, new int[] {1, 1}), "1/2");
        Check.due("both are less", turned(new int[] {2, 2}, new int[] {1, 1}), "2/2");
        Check.due("none is less", turned(new int[] {1, 1}, new int[] {1, 1}), "1/1");
        Check.due("L is more", turned(new int[] {1, 1}, new int[] {2, 1}), "2/1");
        Check.due("S is more", turned(new int[] {1, 1}, new int[] {1, 2}), "1/2");
        Check.due("both are more", turned(new int[] {1, 1}, new int[] {2, 2}), "2/2");
        Check.due("L is less, S is more", turned(new int[] {2, 1}, new int[] {1, 2}), "2/2");
        Check.due("L is more, S is less", turned(new int[] {1, 2}, new int[] {2, 1}), "2/2");
    }

    private static void joined() {
        Check.says("Two views JOINED: the greater L, the greater S.");
        Check.due("4/1 and 1/2", turned(new int[] {4, 1}, new int[] {1, 2}), "4/2");
        Check.due("0/2 and 3/1", turned(new int[] {0, 2}, new int[] {3, 1}), "3/2");
        Check.due("0/1 and 3/2", turned(new int[] {0, 1}, new int[] {3, 2}), "3/2");
    }

    private static void replicaAtFirst() {
        Check.says("a BASE, 0 at first");
        Net net = new Net(7);
        Check.due("the first replica", net.state(0), "NORMAL 0/1 base 0 log 0 point 0 held 0 last 0/1 synced 0");
        Check.says("a POINT, 0 at first");
        Check.due("the last replica", net.state(6), "NORMAL 0/1 base 0 log 0 point 0 held 0 last 0/1 synced 0");
        Check.says("how far it is SYNCED, 0 at first");
        Check.due("one between", net.state(3), "NORMAL 0/1 base 0 log 0 point 0 held 0 last 0/1 synced 0");
        Check.says("a LOG of at most 100 ENTRIES, each a request or a NOTHING, in slots from 1 on");
        Check.due("an empty log has no slot 1", net.table.entry(0, 1, 0), -1);
        Check.says("a STATUS: NORMAL (at first), GAP or CHANGE; the view in which it was NORMAL last");
        for (int what = 0; what <= 10; what++) {
            Check.due("what " + what, net.table.replica(5, what), what == 3 || what == 9 ? 1 : 0);
        }
        Check.says("in slots from 1 on");
        net.ask(0, Net.PUT, 0, 4).stamped(1, 0);
        Check.due("no slot 0", net.table.entry(0, 0, 0), -1);
        Check.due("slot 1", net.table.entry(0, 1, 0), 1);
        Check.due("no slot 2", net.table.entry(0, 2, 0), -1);
    }

    private static void slotsOfNumbers() {
        Check.says("a row of HELD requests by numbers, which have slots behind its log's end");
        Net net = new Net(3).ask(0, Net.PUT, 0, 4).again(0).again(0).again(0);
        net.stamped(2, 0).deliver("GAP COMMIT", 0, 1);
        Check.due("a log of one", net.log(1), "-");
        net.stamped(1, 1);
        Check.due("the number of its end is not HELD", net.state(1), "NORMAL 0/1 base 0 log 1 point 0 held 0 last 0/1 synced 0");
        net.stamped(3, 1);
        Check.due("the second behind it is", net.state(1), "NORMAL 0/1 base 0 log 1 point 0 held 1 last 0/1 synced 0");
        net.stamped(2, 1);
        Check.due("the first behind it is taken, and that one too", net.log(1), "- 0.1 0.1");
        Check.due("then none is HELD", net.table.replica(1, 7), 0);
    }

    private static void slotsOfALaterSession() {
        Check.says("number k of its session has slot BASE + k");
        Net net = new Net(3).grow(2);
        net.table.install();
        net.ask(0, Net.PUT, 0, 4).again(0).stamped(3, 0).deliver("TURN", 0, 1).deliver("TURNED", 1, 0).deliver("START", 0, 2);
        Check.due("BASE 2", net.state(2), "NORMAL 0/2 base 2 log 2 point 0 held 0 last 0/2 synced 0");
        net.stamped(3, 2);
        Check.due("number 1 has slot 3", net.log(2), "0.1 1.1 0.2");
        net.stamped(4, 0);
        Check.due("number 2 has slot 4", net.state(0), "GAP 0/2 base 2 log 3 point 0 held 1 last 0/2 synced 0");
    }

    private static void executedByALeader() {
        Check.says("EXECUTED are all entries of a replica that leads its view and is not in CHANGE");
        Net net = new Net(3);
        Check.due("of an empty log none", net.table.word(0, 0), 0);
        net.ask(0, Net.PUT, 0, 5).ask(1, Net.PUT, 0, 6).settle();
        Check.due("all", net.table.word(0, 0), 6);
        net.ask(0, Net.PUT, 0, 7).ask(1, Net.PUT, 0, 8).stamped(4, 0);
        Check.due("in GAP too", net.table.replica(0, 1) * 10 + net.table.word(0, 0), 16);
        net.deliver("GAP COMMIT", 0, 1).deliver("GAP REPLY", 1, 0);
        Check.due("the one behind a NOTHING", net.table.word(0, 0), 8);
        net.loseAll().table.suspect(0);
        Check.due("one that leads no more", net.table.word(0, 0), 0);
        net.table.suspect(0);
        net.table.suspect(0);
        Check.due("a leader in CHANGE", net.table.replica(0, 2) * 10 + net.table.word(0, 0), 30);
    }

    private static void executedUpToPoint() {
        Check.says("of any other one those up to POINT");
        Net net = new Net(3).ask(0, Net.PUT, 0, 5).ask(1, Net.PUT, 0, 6).settle();
        net.table.sync(0);
        net.deliver("SYNC", 0, 1).deliver("SYNC REPLY", 1, 0).deliver("POINT", 0, 1).loseAll();
        net.ask(0, Net.PUT, 0, 7).settle();
        Check.due("POINT 2 of 3", net.table.replica(1, 6) * 10 + net.table.word(1, 0), 26);
        Check.due("POINT 0", net.table.replica(2, 6) * 10 + net.table.word(2, 0), 0);
        net.table.sync(0);
        net.settle();
        Check.due("POINT 3 of 3", net.table.replica(2, 6) * 10 + net.table.word(2, 0), 37);
        net.ask(1, Net.PUT, 0, 8).settle();
        net.table.suspect(0);
        Check.due("one that was the leader, POINT 3 of 4", net.table.replica(0, 6) * 10 + net.table.word(0, 0), 37);
    }

    private static void numberNotAbove() {
        Check.says("a request whose number is not above that of its client's latest executed one does nothing");
        Net net = new Net(3).ask(0, Net.PUT, 0, 5).ask(1, Net.PUT, 0, 6).again(0).ask(2, Net.ADD, 1, 7).again(2).settle();
        Check.due("before", net.log(0), "0.1 1.1 0.1 2.1 2.1");
        Check.due("a PUT once more", net.table.word(0, 0), 6);
        Check.due("an ADD once more", net.table.word(0, 1), 7);
        Check.due("the ANSWER is the first one's", net.table.answer(2), 0);
        net.table.sync(0);
        net.settle();
        Check.due("of another replica too", net.table.word(2, 0) * 10 + net.table.word(2, 1), 67);
    }

    private static void numberAbove() {
        Check.says("else its ANSWER is its key's word, and with PUT that becomes its word");
        Net net = new Net(3).ask(0, Net.PUT, 0, 5).settle().ask(0, Net.PUT, 0, 6).settle();
        Check.due("number 2 behind number 1", net.table.answer(0) * 10 + net.table.word(0, 0), 56);
        net.ask(1, Net.PUT, 0, 9).settle();
        Check.due("number 1 of another client", net.table.answer(1) * 10 + net.table.word(0, 0), 69);
        net.ask(2, Net.GET, 0, 77).settle();
        Check.due("GET changes nothing", net.table.answer(2) * 10 + net.table.word(0, 0), 99);
        net.ask(3, Net.GET, 1, 77).settle();
        Check.due("of another key", net.table.answer(3) * 10 + net.table.word(0, 1), 0);
    }

    private static void wordsRunOver() {
        Check.says("with ADD it grows by it (32 bits that run over)");
        int[][] sums = {{MAX, 0, MAX}, {MAX, 1, MIN}, {MIN, 0, MIN}, {MIN, -1, MAX}, {MIN, MIN, 0}, {MAX, MAX, -2},
            {-1, 1, 0}, {MAX, MIN, -1}};
        for (int[] s : sums) {
            Net net = new Net(3).ask(0, Net.PUT, 7, s[0]).ask(1, Net.ADD, 7, s[1]).ask(2, Net.GET, 7, 0).settle();
            Check.due(s[0] + " and " + s[1], net.table.word(0, 7), s[2]);
            Check.due("the ANSWER before", net.table.answer(1), s[0]);
            Check.due("the ANSWER then", net.table.answer(2), s[2]);
        }
    }

    private static void takesWhatIsNext() {
        Check.says("It TAKES: as long as the number whose slot is the next one is HELD");
        Net net = new Net(3).ask(0, Net.PUT, 0, 1).ask(1, Net.PUT, 0, 2).ask(2, Net.PUT, 0, 3).ask(3, Net.PUT, 0, 4).again(3);
        net.stamped(2, 1).stamped(3, 1).stamped(5, 1);
        Check.due("not as long as number 1 is missing", net.state(1), "NORMAL 0/1 base 0 log 0 point 0 held 3 last 0/1 synced 0");
        net.loseAll("LOOKUP").stamped(1, 1);
        Check.due("1 to 3, not 5", net.log(1) + " " + net.table.replica(1, 7), "0.1 1.1 2.1 1");
        net.loseAll("STAMPED");
        Check.due("a REPLY of each, and a LOOKUP", net.air(), "REPLY 1>0, REPLY 1>1, REPLY 1>2, LOOKUP 1>0");
    }

    private static void takesTheHundredth() {
        Check.says("and there are fewer than 100 entries: it is held no more, it is the next entry");
        Net net = new Net(3).grow(99).ask(0, Net.PUT, 0, 5).stamped(100, 0, 1);
        Check.due("the leader takes the 100th", net.state(0), "NORMAL 0/1 base 0 log 100 point 0 held 0 last 0/1 synced 0");
        Check.due("another one too", net.state(1), "NORMAL 0/1 base 0 log 100 point 0 held 0 last 0/1 synced 0");
        Check.due("it is executed", net.table.word(0, 0), 5);
        Check.due("it is a request", net.table.entry(1, 100, 1) * 100 + net.table.entry(1, 100, 2), 26);
        net.settle();
        Check.due("and accepted", net.client(0), "2 slot 100 view 0/1 answer 0");
    }

    private static void takesNoHundredAndFirst() {
        Check.says("a LOG of at most 100 ENTRIES");
        Net net = new Net(3).grow(100).ask(0, Net.PUT, 0, 5).stamped(101, 0, 1, 2);
        for (int r = 0; r < 3; r++) {
            Check.due("replica " + r, net.state(r), "NORMAL 0/1 base 0 log 100 point 0 held 1 last 0/1 synced 0");
            Check.due("slot 101 of " + r, net.table.entry(r, 101, 0), -1);
        }
        Check.due("nothing is sent", net.table.about(0), 0);
        Check.due("nor executed", net.table.word(0, 0), 0);

        Net held = new Net(3).grow(98).ask(0, Net.PUT, 0, 5).ask(1, Net.PUT, 0, 6).ask(2, Net.PUT, 0, 7);
        held.stamped(100, 0).stamped(101, 0).stamped(100, 1).stamped(101, 1).stamped(99, 1);
        Check.due("99 and 100, not 101", held.state(1), "NORMAL 0/1 base 0 log 100 point 0 held 1 last 0/1 synced 0");
        held.deliver("GAP COMMIT", 0, 2).deliver("GAP REPLY", 2, 0);
        Check.due("the leader: 100, not 101", held.state(0), "NORMAL 0/1 base 0 log 100 point 0 held 1 last 0/1 synced 0");
        Check.due("its 99th is a NOTHING", held.table.entry(0, 99, 0) * 10 + held.table.entry(0, 100, 0), 1);
    }

    private static void theHundredthIsMissing() {
        Check.says("Then, if some are still HELD and there are fewer than 100 entries, something is MISSING");
        Net net = new Net(3).grow(99).ask(0, Net.PUT, 0, 5).again(0).stamped(101, 0, 1);
        Check.due("the leader's 100th is a NOTHING", net.state(0), "GAP 0/1 base 0 log 100 point 0 held 1 last 0/1 synced 0");
        Check.due("another one asks", net.state(1), "NORMAL 0/1 base 0 log 99 point 0 held 1 last 0/1 synced 0");
        net.loseAll("STAMPED");
        Check.due("of both something is MISSING", net.air(), "GAP COMMIT 0>1, GAP COMMIT 0>2, LOOKUP 1>0");
        net.deliver("LOOKUP", 1, 0).loseAll("GAP COMMIT");
        Check.due("the 100th was asked for; it is a NOTHING", net.table.entry(0, 100, 0), 0);
    }

    private static void nothingIsMissingInAFullLog() {
        Check.says("the leader has a NOTHING as the next entry, is in GAP");
        Net net = new Net(3).grow(99).ask(0, Net.PUT, 0, 5).again(0).stamped(101, 0, 1);
        net.deliver("GAP COMMIT", 0, 1).loseAll("LOOKUP").loseAll("STAMPED").loseAll("GAP COMMIT");
        Check.due("full with one HELD: no LOOKUP", net.air(), "GAP REPLY 1>0");
        Check.due("the other one is full", net.state(1), "NORMAL 0/1 base 0 log 100 point 0 held 1 last 0/1 synced 0");
        net.deliver("GAP REPLY", 1, 0);
        Check.due("full with one HELD: no GAP", net.state(0), "NORMAL 0/1 base 0 log 100 point 0 held 1 last 0/1 synced 0");
        Check.due("and no GAP COMMIT", net.air(), "");
    }

    private static void nothingIsMissingWithoutHeld() {
        Check.says("another one sends LOOKUP (view, the next slot) to the leader");
        Net net = new Net(3).ask(0, Net.PUT, 0, 5).stamped(1, 0, 1).loseAll();
        Check.due("none is HELD, none is asked for", net.table.about(1), 5);
        net.again(0).again(0).stamped(3, 1);
        Check.due("one is HELD", net.table.replica(1, 7), 1);
        net.loseAll("STAMPED");
        Check.due("one is asked for", net.air(), "LOOKUP 1>0");
        net.deliver("LOOKUP", 1, 0);
        Check.due("the leader has not that slot", net.air(), "");
        Check.due("nor is it in GAP by it", net.state(0), "NORMAL 0/1 base 0 log 1 point 0 held 0 last 0/1 synced 0");
    }

    private static void repliesOfARepeatedRequest() {
        Check.says("by the leader, the ANSWER that its client's latest executed request had");
        Net net = new Net(3).ask(0, Net.ADD, 0, 5).ask(1, Net.ADD, 0, 7).again(0);
        net.stamped(1, 0, 1).stamped(2, 0, 1);
        net.loseAll("REPLY").stamped(3, 0, 1).loseAll("STAMPED");
        Check.due("the second time", net.air(), "REPLY 0>0, REPLY 1>0");
        net.settle();
        Check.due("the ANSWER of the first time", net.client(0), "2 slot 3 view 0/1 answer 0");
    }

    private static void syncRepliesNotAnew() {
        Check.says("(SYNC REPLYs not)");
        Net net = new Net(5).ask(0, Net.PUT, 0, 1).stamped(1, 0, 1, 2).loseAll();
        net.table.sync(0);
        net.deliver("SYNC", 0, 1).deliver("SYNC", 0, 2).deliver("SYNC REPLY", 1, 0);
        net.ask(1, Net.PUT, 0, 2).again(1).again(1).again(1).stamped(3, 0);
        Check.due("in GAP", net.table.replica(0, 1) * 10 + net.table.replica(0, 6), 10);
        net.deliver("SYNC REPLY", 2, 0);
        Check.due("the SYNC REPLY from before counts", net.table.replica(0, 6), 1);
    }

    private static void gapRepliesAnew() {
        Check.says("counts GAP REPLYs anew");
        Net net = new Net(5).ask(0, Net.PUT, 0, 1).again(0).again(0).again(0).stamped(2, 0, 1, 2);
        for (int r = 1; r <= 2; r++) {
            net.deliver("GAP COMMIT", 0, r).deliver("GAP REPLY", r, 0);
        }
        Check.due("the first GAP is over", net.log(0) + " " + net.table.replica(0, 1), "- 0.1 0");
        net.stamped(4, 0);
        Check.due("the second GAP", net.log(0) + " " + net.table.replica(0, 1), "- 0.1 - 1");
        net.deliver("GAP COMMIT", 0, 1).deliver("GAP REPLY", 1, 0);
        Check.due("one GAP REPLY of it", net.table.replica(0, 1), 1);
        net.deliver("GAP COMMIT", 0, 2).deliver("GAP REPLY", 2, 0);
        Check.due("F of it", net.log(0) + " " + net.table.replica(0, 1), "- 0.1 - 0.1 0");
    }
}
