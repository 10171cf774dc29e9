/**
 * The boundary cases of promises 1 to 21, sentence by sentence: on both sides of each bound the last input
 * that is allowed and the first that is not.
 */
final class EdgesOfCallsTest {
    private static final int MIN = Integer.MIN_VALUE;
    private static final int MAX = Integer.MAX_VALUE;
    private static final int[] SIZES = {3, 5, 7};
    private static final Class<IndexOutOfBoundsException> OUTSIDE = IndexOutOfBoundsException.class;
    private static final Class<IllegalArgumentException> BAD = IllegalArgumentException.class;
    private static final Class<IllegalStateException> STATE = IllegalStateException.class;

    public static void main(String[] args) {
        newObject();
        requestAtTheEnds();
        requestOfNoClientOrKey();
        requestOfNoKind();
        requestWhileOneIsOpen();
        againAtTheEnds();
        againWithoutAnOpenOne();
        deliverAtTheEnds();
        loseAtTheEnds();
        flowOfOutside();
        flowAsLongAsThereIsOne();
        flowOfWhatComesByIt();
        flowToOneDown();
        downOfNone();
        downOfF();
        upOfNone();
        suspectOfNone();
        suspectOfOneDown();
        suspectInEachStatus();
        nudgeOfNone();
        nudgeOfNothing();
        nudgeInGap();
        nudgeInChange();
        nudgeWithHeld();
        nudgeInAFullAir();
        syncOfNone();
        syncOfOneThatMayNot();
        syncOfTheWholeLog();
        failTwice();
        install();
        replicaOutside();
        replicaWhat();
        entryOutside();
        entryOfANothing();
        wordOutside();
        clientOutside();
        clientWhat();
        answerOutside();
        aboutOutside();
        messageOutside();
        messageKinds();
        none();
        brokenOfNone();
        brokenOfAChange();
        brokenOfAnOldLeader();
        brokenOfARepeatedRequest();
        Check.end();
    }

    private static void newObject() {
        Check.says("N is 3, 5 or 7, as n modulo 3 (the rest that is not below 0) is 0, 1, 2.");
        int[][] all = {{0, 3}, {1, 5}, {2, 7}, {3, 3}, {4, 5}, {5, 7}, {-1, 7}, {-2, 5}, {-3, 3}, {-4, 7},
            {MAX, 5}, {MAX - 1, 3}, {MAX - 2, 7}, {MIN, 5}, {MIN + 1, 7}, {MIN + 2, 3}, {1_000_000_000, 5}};
        for (int[] one : all) {
            Table t = new Table(one[0]);
            Check.due(one[0] + ": the last replica", t.replica(one[1] - 1, 0), 0);
            Check.due(one[0] + ": one beyond", t.replica(one[1], 0), -1);
            t.request(0, 0, 0, 0);
            Check.due(one[0] + ": to each replica", t.about(0), one[1]);
        }
    }

    private static void requestAtTheEnds() {
        Check.says("A client's next request, which is open then, is stamped: its number.");
        for (int client = 0; client <= 3; client += 3) {
            for (int key = 0; key <= 7; key += 7) {
                for (int kind = 0; kind <= 2; kind++) {
                    for (int word : new int[] {MIN, -1, 0, MAX}) {
                        Net net = new Net(3);
                        String what = "request(" + client + ", " + kind + ", " + key + ", " + word + ")";
                        Check.due(what, net.table.request(client, kind, key, word), 1);
                        Check.due(what + " is open", net.table.client(client, 1), 1);
                        net.table.flow(1);
                        int[] want = {1, client, 1, kind, key, word};
                        for (int i = 0; i <= 5; i++) {
                            Check.due(what + ", entry " + i, net.table.entry(0, 1, i), want[i]);
                        }
                        Check.due(what + ", its word", net.table.word(0, key), kind == 0 ? 0 : word);
                    }
                }
            }
        }
    }

    private static void requestOfNoClientOrKey() {
        Check.says("IndexOutOfBoundsException: no such client or key.");
        Table t = new Net(3).table;
        for (int none : new int[] {-1, 4, 5, MIN, MAX}) {
            Check.raises("client " + none, OUTSIDE, () -> t.request(none, 0, 0, 0));
        }
        for (int none : new int[] {-1, 8, 9, MIN, MAX}) {
            Check.raises("key " + none, OUTSIDE, () -> t.request(0, 0, none, 0));
        }
        Check.due("nothing is sent", t.about(1) + t.about(5), 0);
        Check.due("the next one is the first", t.request(0, 0, 0, 0), 1);
    }

    private static void requestOfNoKind() {
        Check.says("IllegalArgumentException: no such kind.");
        Table t = new Net(3).table;
        for (int none : new int[] {-1, 3, 4, MIN, MAX}) {
            Check.raises("kind " + none, BAD, () -> t.request(0, none, 0, 0));
        }
        Check.due("nothing is sent", t.about(1) + t.about(5), 0);
        Check.due("none is open", t.client(0, 1), 0);
        Check.due("the next one is the first", t.request(0, 2, 0, 0), 1);
    }

    private static void requestWhileOneIsOpen() {
        Check.says("IllegalStateException: its latest one is open.");
        Net net = new Net(3);
        Table t = net.table;
        Check.due("none was before", t.request(0, 0, 0, 0), 1);
        Check.raises("one is open", STATE, () -> t.request(0, 0, 0, 0));
        Check.due("another client has none", t.request(1, 0, 0, 0), 1);
        t.flow(3);
        Check.raises("it is in a log, yet open", STATE, () -> t.request(0, 0, 0, 0));
        net.settle();
        Check.due("it is accepted", t.request(0, 0, 0, 0), 2);
        t.fail();
        Check.raises("open, without a sequencer", STATE, () -> t.request(0, 0, 0, 0));
        Check.due("how many it had", t.client(0, 0), 2);
    }

    private static void againAtTheEnds() {
        Check.says("Its open request is stamped again. IndexOutOfBoundsException: no such client.");
        for (int client = 0; client <= 3; client++) {
            Table t = new Net(3).table;
            t.request(client, 0, 0, 0);
            t.again(client);
            Check.due("client " + client, t.about(1) * 10 + t.about(5), 62);
            for (int none : new int[] {-1, 4, MIN, MAX}) {
                Check.raises("client " + none, OUTSIDE, () -> t.again(none));
            }
            Check.due("nothing more is stamped", t.about(1) * 10 + t.about(5), 62);
        }
    }

    private static void againWithoutAnOpenOne() {
        Check.says("IllegalStateException: none is open.");
        Net net = new Net(3);
        Table t = net.table;
        Check.raises("it had none", STATE, () -> t.again(0));
        t.request(1, 0, 0, 0);
        Check.raises("another client's is open", STATE, () -> t.again(0));
        t.again(1);
        net.settle();
        Check.raises("it is accepted", STATE, () -> t.again(1));
        Check.due("COUNT", t.about(5), 2);
        t.request(1, 0, 0, 0);
        t.again(1);
        Check.due("the next one is open", t.about(5), 4);
    }

    private static void deliverAtTheEnds() {
        Check.says("A message is delivered. IllegalArgumentException: it is not in the air.");
        Net net = new Net(3).ask(0, Net.PUT, 0, 1).ask(1, Net.PUT, 0, 2);
        Table t = net.table;
        for (int none : new int[] {-1, 6, 7, 200, MIN, MAX}) {
            Check.raises("message " + none, BAD, () -> t.deliver(none));
        }
        Check.due("nothing came", t.about(0) * 10 + t.about(2), 60);
        t.deliver(5);
        Check.due("the last one", net.table.replica(2, 7), 1);
        t.deliver(0);
        Check.due("the first one", net.log(0), "0.1");
        for (int none : new int[] {0, 5, 8}) {
            Check.raises("then message " + none, BAD, () -> t.deliver(none));
        }
        t.deliver(7);
        Check.due("what came by it", t.about(0) + " " + t.about(1) + " " + t.about(2), "5 8 0");
    }

    private static void loseAtTheEnds() {
        Check.says("A message is lost. IllegalArgumentException: it is not in the air.");
        Net net = new Net(3).ask(0, Net.PUT, 0, 1).ask(1, Net.PUT, 0, 2);
        Table t = net.table;
        for (int none : new int[] {-1, 6, 7, 200, MIN, MAX}) {
            Check.raises("message " + none, BAD, () -> t.lose(none));
        }
        Check.due("none is lost", t.about(0) * 10 + t.about(2), 60);
        t.lose(5);
        t.lose(0);
        Check.due("the last one and the first one", net.air(), "STAMPED *>1, STAMPED *>2, STAMPED *>0, STAMPED *>1");
        Check.due("lost", t.about(2), 2);
        for (int none : new int[] {0, 5}) {
            Check.raises("then message " + none, BAD, () -> t.lose(none));
        }
        Check.due("still two", t.about(2), 2);
        net.loseAll();
        Check.due("an empty air", t.about(0) * 10 + t.about(2), 6);
        Check.raises("the last one of all", BAD, () -> t.lose(4));
    }

    private static void flowOfOutside() {
        Check.says("IllegalArgumentException: n is not 0 .. 40.");
        Table t = new Net(3).table;
        for (int n : new int[] {-1, 41, 42, MIN, MAX}) {
            Check.raises("flow(" + n + ") of an empty air", BAD, () -> t.flow(n));
        }
        Check.due("flow(0) of an empty air", t.flow(0), 0);
        Check.due("flow(40) of an empty air", t.flow(40), 0);
        t.request(0, 0, 0, 0);
        for (int n : new int[] {-1, 41, 42, MIN, MAX}) {
            Check.raises("flow(" + n + ")", BAD, () -> t.flow(n));
        }
        Check.due("nothing is delivered", t.about(0) * 10 + t.about(1), 33);
        Check.due("flow(0)", t.flow(0) * 10 + t.about(0), 3);
        Check.due("flow(1)", t.flow(1) * 10 + t.about(0), 13);
        Check.due("flow(40)", t.flow(40) * 10 + t.about(0), 50);
    }

    /** So many messages in the air, of which nothing comes: the replicas are in CHANGE. */
    private static Net lying(int messages) {
        Net net = new Net(3).toView(0, 1, 1).toView(1, 1, 1).toView(2, 1, 1).ask(0, Net.GET, 0, 0);
        while (net.table.about(0) < messages) {
            net.table.again(0);
        }
        while (net.table.about(0) > messages) {
            net.table.lose(net.table.message(0, 0));
        }
        return net;
    }

    private static void flowAsLongAsThereIsOne() {
        Check.says("The oldest message is delivered, n times (as long as there is one; also such as come by it, and to a replica that is DOWN): how many.");
        for (int messages = 38; messages <= 42; messages++) {
            Table t = lying(messages).table;
            Check.due("flow(40) of " + messages, t.flow(40), Math.min(40, messages));
            Check.due("are left of " + messages, t.about(0), Math.max(0, messages - 40));
            Table less = lying(messages).table;
            Check.due("flow(39) of " + messages, less.flow(39), Math.min(39, messages));
            Check.due("are left then of " + messages, less.about(0), Math.max(0, messages - 39));
        }
        Net oldest = new Net(3).ask(0, Net.PUT, 0, 1);
        oldest.table.flow(2);
        Check.due("the oldest two", oldest.air(), "STAMPED *>2, REPLY 0>0, REPLY 1>0");
    }

    private static void flowOfWhatComesByIt() {
        Check.says("also such as come by it");
        Net net = new Net(3).ask(0, Net.PUT, 0, 1);
        Check.due("three, and three that come by them", net.table.flow(6), 6);
        Check.due("then there is none", net.table.flow(1), 0);
        Net five = new Net(3).ask(0, Net.PUT, 0, 1);
        Check.due("five of the six", five.table.flow(5), 5);
        Check.due("the last is left", five.air(), "REPLY 2>0");
    }

    private static void flowToOneDown() {
        Check.says("and to a replica that is DOWN): how many.");
        Net net = new Net(3).ask(0, Net.PUT, 0, 1);
        net.table.down(0);
        Check.due("three, and two that come by two", net.table.flow(40), 5);
        Check.due("one is lost", net.table.about(2), 1);
    }

    private static void downOfNone() {
        Check.says("A replica goes DOWN. IndexOutOfBoundsException: there is none such.");
        for (int n : SIZES) {
            Table t = new Net(n).table;
            for (int none : new int[] {-1, n, n + 1, MIN, MAX}) {
                Check.raises(n + ": down(" + none + ")", OUTSIDE, () -> t.down(none));
            }
            t.down(n - 1);
            Check.due(n + ": the last", t.replica(n - 1, 0), 1);
            t.up(n - 1);
            t.down(0);
            Check.due(n + ": the first", t.replica(0, 0) * 10 + t.replica(n - 1, 0), 10);
            for (int none : new int[] {-1, n}) {
                Check.raises(n + ": then down(" + none + ")", OUTSIDE, () -> t.down(none));
            }
        }
    }

    private static void downOfF() {
        Check.says("IllegalStateException: it is DOWN, or F are.");
        for (int n : SIZES) {
            Table t = new Net(n).table;
            for (int r = 0; r < n / 2; r++) {
                int one = n - 1 - r;
                t.down(one);
                Check.due(n + ": DOWN " + r, t.replica(one, 0), 1);
                Check.raises(n + ": DOWN again " + r, STATE, () -> t.down(one));
            }
            for (int r = 0; r < n; r++) {
                int one = r;
                Check.raises(n + ": F are, and " + r, STATE, () -> t.down(one));
            }
            t.up(n - 1);
            t.down(0);
            Check.due(n + ": F again", t.replica(0, 0) * 10 + t.replica(n - 1, 0), 10);
            Check.raises(n + ": one more", STATE, () -> t.down(n - 1));
        }
    }

    private static void upOfNone() {
        Check.says("It is there again. IndexOutOfBoundsException: there is none such. IllegalStateException: it is not DOWN.");
        for (int n : SIZES) {
            Table t = new Net(n).table;
            for (int none : new int[] {-1, n, n + 1, MIN, MAX}) {
                Check.raises(n + ": up(" + none + ")", OUTSIDE, () -> t.up(none));
            }
            for (int r = 0; r < n; r++) {
                int one = r;
                Check.raises(n + ": it is not DOWN, " + r, STATE, () -> t.up(one));
                t.down(r);
                t.up(r);
                Check.due(n + ": there again, " + r, t.replica(r, 0), 0);
                Check.raises(n + ": it is not DOWN any more, " + r, STATE, () -> t.up(one));
            }
        }
    }

    private static void suspectOfNone() {
        Check.says("It suspects its leader, in CHANGE too: it TURNS to (L + 1, S). IndexOutOfBoundsException: there is none such.");
        for (int n : SIZES) {
            Table t = new Net(n).table;
            for (int none : new int[] {-1, n, n + 1, MIN, MAX}) {
                Check.raises(n + ": suspect(" + none + ")", OUTSIDE, () -> t.suspect(none));
            }
            Check.due(n + ": nothing is sent", t.about(1), 0);
            t.suspect(0);
            t.suspect(n - 1);
            Check.due(n + ": the first and the last", t.replica(0, 2) * 10 + t.replica(n - 1, 2), 11);
            t.down(0);
            Check.raises(n + ": one that is DOWN", STATE, () -> t.suspect(0));
            t.up(0);
            t.suspect(0);
            Check.due(n + ": up again", t.replica(0, 2), 2);
        }
    }

    private static void suspectOfOneDown() {
        Check.says("it TURNS to (L + 1, S). IndexOutOfBoundsException: there is none such. IllegalStateException: it is DOWN.");
        Net net = new Net(3);
        net.table.down(0);
        Check.raises("the leader, DOWN", STATE, () -> net.table.suspect(0));
        Check.due("nothing is sent", net.table.about(1), 0);
        Check.due("its view stays", net.state(0), "NORMAL 0/1 base 0 log 0 point 0 held 0 last 0/1 synced 0");
        net.table.suspect(1);
        net.table.up(0);
        net.table.suspect(0);
        Check.due("up again", net.table.replica(0, 2), 1);
    }

    private static void suspectInEachStatus() {
        Check.says("It suspects its leader, in CHANGE too: it TURNS to (L + 1, S).");
        Net net = new Net(3).ask(0, Net.PUT, 0, 1).again(0).stamped(2, 0);
        net.table.suspect(0);
        Check.due("in GAP", net.state(0), "CHANGE 1/1 base 0 log 1 point 0 held 0 last 0/1 synced 0");
        net.table.suspect(0);
        Check.due("in CHANGE", net.state(0), "CHANGE 2/1 base 0 log 1 point 0 held 0 last 0/1 synced 0");
        net.table.suspect(0);
        Check.due("as the leader of its view", net.state(0), "CHANGE 3/1 base 0 log 1 point 0 held 0 last 0/1 synced 0");
        net.toView(1, 0, 2).table.suspect(1);
        Check.due("S stays", net.state(1), "CHANGE 1/2 base 0 log 0 point 0 held 0 last 0/1 synced 0");
    }

    private static void nudgeOfNone() {
        Check.says("how many messages were sent (also such as were lost at once). IndexOutOfBoundsException: there is none such. IllegalStateException: it is DOWN.");
        for (int n : SIZES) {
            Table t = new Net(n).table;
            for (int none : new int[] {-1, n, n + 1, MIN, MAX}) {
                Check.raises(n + ": nudge(" + none + ")", OUTSIDE, () -> t.nudge(none));
            }
            Check.due(n + ": the first and the last", t.nudge(0) + t.nudge(n - 1), 0);
            t.suspect(n - 1);
            t.down(n - 1);
            int sent = t.about(1);
            Check.raises(n + ": one that is DOWN", STATE, () -> t.nudge(n - 1));
            Check.due(n + ": nothing is sent", t.about(1), sent);
            t.up(n - 1);
            Check.due(n + ": up again", t.nudge(n - 1), n);
        }
    }

    private static void nudgeOfNothing() {
        Check.says("else nothing: how many messages were sent");
        Net net = new Net(3).grow(2);
        Check.due("none is HELD", net.table.nudge(0) + net.table.nudge(1) + net.table.nudge(2), 0);
        Check.due("nothing is sent", net.table.about(0), 0);
        Net full = new Net(3).grow(100).ask(0, Net.PUT, 0, 1).stamped(101, 0, 1);
        Check.due("the leader with one HELD", full.table.replica(0, 7) * 10 + full.table.nudge(0), 10);
        Check.due("another one with one HELD", full.table.replica(1, 7) * 10 + full.table.nudge(1), 11);
    }

    private static void nudgeInGap() {
        Check.says("in GAP GAP COMMIT is sent to all others (nothing is counted anew)");
        for (int n : SIZES) {
            Net net = new Net(n).ask(0, Net.PUT, 0, 1).again(0).stamped(2, 0).loseAll();
            Check.due(n + ": sent", net.table.nudge(0), n - 1);
            net.deliver("GAP COMMIT", 0, n - 1);
            Check.due(n + ": that slot", net.log(n - 1), "-");
        }
        Net anew = new Net(5).ask(0, Net.PUT, 0, 1).again(0).stamped(2, 0).deliver("GAP COMMIT", 0, 1).deliver("GAP REPLY", 1, 0);
        anew.table.nudge(0);
        Check.due("still in GAP", anew.table.replica(0, 1), 1);
        anew.deliver("GAP COMMIT", 0, 2).deliver("GAP REPLY", 2, 0);
        Check.due("one counted before, one then", anew.table.replica(0, 1), 0);
    }

    private static void nudgeInChange() {
        Check.says("in CHANGE TURN, and TURNED (but to itself)");
        for (int n : SIZES) {
            Net net = new Net(n).toView(1, 1, 1).toView(2, 1, 1);
            Check.due(n + ": to itself no TURNED", net.table.nudge(1), n - 1);
            Check.due(n + ": to another one", net.table.nudge(2), n);
            Check.due(n + ": TURNED comes last", net.table.name(net.table.air().size() - 1), "TURNED 2>1");
            Check.due(n + ": nothing else changes", net.state(2), "CHANGE 1/1 base 0 log 0 point 0 held 0 last 0/1 synced 0");
        }
        Net counts = new Net(5).toView(2, 1, 1).toView(3, 1, 1);
        counts.table.nudge(2);
        counts.table.nudge(3);
        counts.deliver("TURNED", 2, 1).table.nudge(1);
        counts.deliver("TURNED", 3, 1);
        Check.due("what is counted stays", counts.table.replica(1, 1), 0);
    }

    private static void nudgeWithHeld() {
        Check.says("NORMAL and not leading, with some HELD, LOOKUP (view, the next slot)");
        Net net = new Net(3).ask(0, Net.PUT, 0, 1).ask(1, Net.PUT, 0, 2).ask(2, Net.PUT, 0, 3).stamped(1, 0, 1).stamped(2, 0);
        net.loseAllBut(7);
        Check.due("none HELD", net.table.nudge(1), 0);
        net.table.deliver(7);
        net.loseAll();
        Check.due("one HELD behind the next", net.table.replica(1, 7) * 10 + net.table.nudge(1), 11);
        Check.due("LOOKUP", net.air(), "LOOKUP 1>0");
        net.deliver("LOOKUP", 1, 0).deliver("FOUND", 0, 1);
        Check.due("of the next slot", net.log(1), "0.1 1.1 2.1");
        Check.due("then none is HELD", net.table.nudge(1), 0);
    }

    private static void nudgeInAFullAir() {
        Check.says("how many messages were sent (also such as were lost at once)");
        Net net = new Net(5).toView(2, 1, 1).ask(0, Net.GET, 0, 0);
        for (int i = 0; i < 39; i++) {
            net.table.again(0);
        }
        int lost = net.table.about(2);
        Check.due("a full air", net.table.nudge(2) * 10 + net.table.about(2) - lost, 55);
        net.table.lose(net.table.message(0, 0));
        Check.due("one place", net.table.nudge(2) * 10 + net.table.about(2) - lost, 50 + 5 + 1 + 4);
        Check.due("that the first has", net.table.message(199, 1) * 10 + net.table.message(199, 3), 80);
    }

    private static void syncOfNone() {
        Check.says("SYNC of its whole log is sent to all others. IndexOutOfBoundsException: there is none such.");
        for (int n : SIZES) {
            Table t = new Net(n).table;
            for (int none : new int[] {-1, n, n + 1, MIN, MAX}) {
                Check.raises(n + ": sync(" + none + ")", OUTSIDE, () -> t.sync(none));
            }
            Check.due(n + ": nothing is sent", t.about(1), 0);
            t.sync(0);
            Check.due(n + ": to all others", t.about(1), n - 1);
        }
    }

    private static void syncOfOneThatMayNot() {
        Check.says("IllegalStateException: it is DOWN, does not lead, or is not NORMAL.");
        for (int n : SIZES) {
            Net net = new Net(n);
            Table t = net.table;
            for (int r = 1; r < n; r++) {
                int one = r;
                Check.raises(n + ": does not lead, " + r, STATE, () -> t.sync(one));
            }
            t.down(0);
            Check.raises(n + ": is DOWN", STATE, () -> t.sync(0));
            t.up(0);
            net.ask(0, Net.PUT, 0, 1).again(0).stamped(2, 0);
            Check.raises(n + ": is in GAP", STATE, () -> t.sync(0));
            for (int i = 1; i < n; i++) {
                t.suspect(0);
            }
            Check.raises(n + ": does not lead its view", STATE, () -> t.sync(0));
            t.suspect(0);
            Check.raises(n + ": leads, is in CHANGE", STATE, () -> t.sync(0));
            Check.due(n + ": it leads", t.replica(0, 2), n);
        }
        Net later = new Net(3).toView(2, 1, 1);
        later.table.nudge(2);
        later.deliver("TURNED", 2, 1).loseAll().table.sync(1);
        Check.due("the leader of a later view", later.air(), "SYNC 1>0, SYNC 1>2");
    }

    private static void syncOfTheWholeLog() {
        Check.says("SYNC of its whole log is sent to all others.");
        Net empty = new Net(3);
        empty.table.sync(0);
        empty.settle();
        Check.due("an empty log", empty.state(1), "NORMAL 0/1 base 0 log 0 point 0 held 0 last 0/1 synced 0");
        Check.due("SYNC and SYNC REPLY alone", empty.table.about(1), 4);
        Net full = new Net(3).grow(100);
        full.table.sync(0);
        full.settle();
        Check.due("a full log", full.state(1), "NORMAL 0/1 base 0 log 100 point 100 held 0 last 0/1 synced 100");
        Check.due("of the leader", full.state(0), "NORMAL 0/1 base 0 log 100 point 100 held 0 last 0/1 synced 0");
        Check.due("all words", full.table.word(2, 7), 100);
        Net then = new Net(3).ask(0, Net.PUT, 0, 1).ask(1, Net.PUT, 0, 2).stamped(1, 0, 1);
        then.table.sync(0);
        then.stamped(2, 0, 1).deliver("SYNC", 0, 1);
        Check.due("the log as it was when it was sent", then.table.replica(1, 10), 1);
    }

    private static void failTwice() {
        Check.says("The sequencer is not up any more: whether it was.");
        Table t = new Net(3).table;
        Check.due("it was", t.fail() ? 1 : 0, 1);
        Check.due("it was not", t.fail() ? 1 : 0, 0);
        Check.due("nor then", t.fail() ? 1 : 0, 0);
        Check.due("not up", t.about(3), 0);
        t.install();
        Check.due("it was again", t.fail() ? 1 : 0, 1);
    }

    private static void install() {
        Check.says("A sequencer is up (also in the place of one that is) with a SESSION one higher, COUNT 0: that session.");
        Net net = new Net(3).ask(0, Net.PUT, 0, 1);
        Table t = net.table;
        Check.due("in the place of one that is", t.install(), 2);
        Check.due("SESSION, COUNT, up", t.about(4) * 100 + t.about(5) * 10 + t.about(3), 201);
        net.again(0).again(0);
        Check.due("COUNT", t.about(5), 2);
        t.fail();
        Check.due("after a fail", t.install(), 3);
        Check.due("SESSION, COUNT, up then", t.about(4) * 100 + t.about(5) * 10 + t.about(3), 301);
        Check.due("at once again", t.install(), 4);
        Check.due("no replica is told", t.replica(0, 3) + t.replica(1, 3) + t.replica(2, 3), 3);
        Check.due("what was stamped lies there still", t.about(0), 9);
    }

    private static void replicaOutside() {
        Check.says("NONE for another what, or replica.");
        for (int n : SIZES) {
            Table t = new Net(n).table;
            for (int none : new int[] {-1, n, n + 1, MIN, MAX}) {
                for (int what : new int[] {-1, 0, 1, 3, 10, 11}) {
                    Check.due(n + ": replica(" + none + ", " + what + ")", t.replica(none, what), -1);
                }
            }
            for (int r = 0; r < n; r += n - 1) {
                for (int what : new int[] {-1, 11, 12, MIN, MAX}) {
                    Check.due(n + ": replica(" + r + ", " + what + ")", t.replica(r, what), -1);
                }
                Check.due(n + ": the first what", t.replica(r, 0), 0);
                Check.due(n + ": the last what", t.replica(r, 10), 0);
            }
        }
    }

    private static void replicaWhat() {
        Check.says("Of a replica: 1 if it is DOWN, else 0 (what = 0), its STATUS (1: 0 NORMAL, 1 GAP, 2 CHANGE), L (2), S (3), BASE (4), its log's length (5), POINT (6), how many are HELD (7), L and S of the view in which it was NORMAL last (8, 9), how far it is SYNCED (10).");
        Net net = new Net(3).grow(3);
        net.table.install();
        net.ask(0, Net.PUT, 0, 1).stamped(4, 0).settle();
        net.table.suspect(1);
        net.settle().ask(1, Net.PUT, 0, 2).settle();
        net.table.sync(1);
        net.settle().ask(2, Net.PUT, 0, 3).again(2).again(2).stamped(6, 0).stamped(7, 1, 2).stamped(8, 2);
        int[][] want = {{0, 0, 1, 2, 3, 6, 5, 0, 1, 2, 5}, {0, 1, 1, 2, 3, 6, 5, 1, 1, 2, 0}, {0, 0, 1, 2, 3, 5, 5, 2, 1, 2, 5}};
        for (int r = 0; r < 3; r++) {
            for (int what = 0; what <= 10; what++) {
                Check.due("replica(" + r + ", " + what + ")", net.table.replica(r, what), want[r][what]);
            }
        }
        net.table.suspect(2);
        net.table.down(2);
        int[] then = {1, 2, 2, 2, 3, 5, 5, 0, 1, 2, 0};
        for (int what = 0; what <= 10; what++) {
            Check.due("in CHANGE and DOWN, replica(2, " + what + ")", net.table.replica(2, what), then[what]);
        }
    }

    private static void entryOutside() {
        Check.says("word (5; 0 of a NOTHING, and if there is no such entry or replica). NONE for 1 .. 4 of a NOTHING, for 0 .. 4 if there is none such, and for another what.");
        Net net = new Net(3).ask(3, Net.ADD, 7, 9).ask(0, Net.PUT, 0, -1).stamped(1, 0, 1).stamped(2, 0);
        int[][] none = {{0, 0}, {0, 3}, {0, -1}, {0, 100}, {0, 101}, {0, MIN}, {0, MAX}, {1, 2}, {2, 1}, {-1, 1}, {3, 1}, {MIN, 1}, {MAX, 1}};
        for (int[] at : none) {
            for (int what = -1; what <= 6; what++) {
                Check.due("entry(" + at[0] + ", " + at[1] + ", " + what + ")", net.table.entry(at[0], at[1], what), what == 5 ? 0 : -1);
            }
        }
        int[][] want = {{1, 3, 1, 2, 7, 9}, {1, 0, 1, 1, 0, -1}};
        for (int slot = 1; slot <= 2; slot++) {
            for (int what = 0; what <= 5; what++) {
                Check.due("entry(0, " + slot + ", " + what + ")", net.table.entry(0, slot, what), want[slot - 1][what]);
            }
            for (int what : new int[] {-1, 6, 7, MIN, MAX}) {
                Check.due("entry(0, " + slot + ", " + what + ")", net.table.entry(0, slot, what), -1);
            }
        }
        Net full = new Net(3).grow(100);
        Check.due("the 100th", full.table.entry(0, 100, 0) * 10 + full.table.entry(0, 100, 5), 11);
        Check.due("the 101st", full.table.entry(0, 101, 0) * 10 + full.table.entry(0, 101, 5), -10);
    }

    private static void entryOfANothing() {
        Check.says("Of an entry of a replica's log: 1 a request, 0 a NOTHING (what = 0)");
        Net net = new Net(3).ask(3, Net.ADD, 7, 9).again(3).stamped(2, 0);
        int[] want = {0, -1, -1, -1, -1, 0};
        for (int what = 0; what <= 5; what++) {
            Check.due("entry(0, 1, " + what + ")", net.table.entry(0, 1, what), want[what]);
        }
        for (int what : new int[] {-1, 6, MIN, MAX}) {
            Check.due("entry(0, 1, " + what + ")", net.table.entry(0, 1, what), -1);
        }
    }

    private static void wordOutside() {
        Check.says("A key's word by what a replica, DOWN or not, has EXECUTED; 0 for none such.");
        for (int n : SIZES) {
            Net net = new Net(n).ask(0, Net.PUT, 0, 5).ask(1, Net.PUT, 7, 6).settle();
            Table t = net.table;
            t.sync(0);
            net.settle();
            for (int r = 0; r < n; r += n - 1) {
                Check.due(n + ": the first key", t.word(r, 0), 5);
                Check.due(n + ": the last key", t.word(r, 7), 6);
                for (int key : new int[] {-1, 8, 9, MIN, MAX}) {
                    Check.due(n + ": word(" + r + ", " + key + ")", t.word(r, key), 0);
                }
            }
            for (int none : new int[] {-1, n, n + 1, MIN, MAX}) {
                Check.due(n + ": word(" + none + ", 0)", t.word(none, 0) + t.word(none, 7), 0);
            }
            t.down(0);
            Check.due(n + ": DOWN", t.word(0, 0), 5);
        }
    }

    private static void clientOutside() {
        Check.says("NONE else, for another what, or client.");
        Net net = new Net(3).ask(0, Net.PUT, 0, 5).ask(3, Net.PUT, 0, 6).settle();
        for (int none : new int[] {-1, 4, 5, MIN, MAX}) {
            for (int what = -1; what <= 5; what++) {
                Check.due("client(" + none + ", " + what + ")", net.table.client(none, what), -1);
            }
        }
        for (int client = 0; client <= 3; client += 3) {
            for (int what : new int[] {-1, 5, 6, MIN, MAX}) {
                Check.due("client(" + client + ", " + what + ")", net.table.client(client, what), -1);
            }
            Check.due("the first what", net.table.client(client, 0), 1);
            Check.due("the last what", net.table.client(client, 4), 1);
        }
    }

    private static void clientWhat() {
        Check.says("how many requests it had (what = 0); 0 none, 1 open, 2 ACCEPTED (1) of its latest one; if that is accepted its slot (2), L (3), S (4).");
        Net net = new Net(3);
        Check.due("none", net.table.client(3, 0) + " " + net.client(3), "0 0 slot -1 view -1/-1 answer 0");
        net.ask(3, Net.ADD, 0, 5);
        Check.due("open", net.table.client(3, 0) + " " + net.client(3), "1 1 slot -1 view -1/-1 answer 0");
        net.settle();
        Check.due("ACCEPTED", net.table.client(3, 0) + " " + net.client(3), "1 2 slot 1 view 0/1 answer 0");
        net.table.install();
        net.ask(2, Net.PUT, 1, 1).settle();
        net.table.suspect(2);
        net.settle().ask(3, Net.GET, 0, 0);
        Check.due("a later one is open", net.table.client(3, 0) + " " + net.client(3), "2 1 slot -1 view -1/-1 answer 0");
        net.settle();
        Check.due("in another view", net.table.client(3, 0) + " " + net.client(3), "2 2 slot 3 view 1/2 answer 5");
    }

    private static void answerOutside() {
        Check.says("The ANSWER of a client's latest request that was ACCEPTED, also while a later one is open; 0 without.");
        Net net = new Net(3).ask(0, Net.PUT, 0, 5).settle();
        net.ask(3, Net.GET, 0, 0).settle().ask(1, Net.GET, 0, 0);
        Check.due("without", net.table.answer(2), 0);
        Check.due("an open one alone", net.table.answer(1), 0);
        Check.due("the last client", net.table.answer(3), 5);
        for (int none : new int[] {-1, 4, MIN, MAX}) {
            Check.due("answer(" + none + ")", net.table.answer(none), 0);
        }
        net.ask(3, Net.GET, 7, 0);
        Check.due("while a later one is open", net.table.answer(3), 5);
        net.settle();
        Check.due("of the later one", net.table.answer(3), 0);
    }

    private static void aboutOutside() {
        Check.says("requests that were ACCEPTED (6). NONE for another what.");
        Net net = new Net(3).ask(0, Net.PUT, 0, 5).settle();
        int[] want = {0, 6, 0, 1, 1, 1, 1};
        for (int what = 0; what <= 6; what++) {
            Check.due("about(" + what + ")", net.table.about(what), want[what]);
        }
        for (int what : new int[] {-1, 7, 8, MIN, MAX}) {
            Check.due("about(" + what + ")", net.table.about(what), -1);
        }
        Check.says("How many messages lie in the air (what = 0), were sent in all (1), were lost in any way (2); 1 if the sequencer is up, else 0 (3), its SESSION (4), COUNT (5); requests that were ACCEPTED (6).");
        net.table.install();
        net.ask(1, Net.PUT, 0, 5).again(1).table.fail();
        net.table.lose(6);
        int[] then = {5, 12, 1, 0, 2, 2, 1};
        for (int what = 0; what <= 6; what++) {
            Check.due("then about(" + what + ")", net.table.about(what), then[what]);
        }
        Check.says("were lost in any way (2)");
        Net lost = new Net(3).ask(0, Net.PUT, 0, 5);
        lost.table.lose(0);
        Check.due("by lose", lost.table.about(2), 1);
        lost.table.down(1);
        lost.table.deliver(1);
        Check.due("delivered to one DOWN", lost.table.about(2), 2);
        for (int i = 0; i < 66; i++) {
            lost.table.again(0);
        }
        Check.due("199 in the air", lost.table.about(0) * 10 + lost.table.about(2), 1992);
        lost.table.again(0);
        Check.due("sent beyond 200", lost.table.about(0) * 10 + lost.table.about(2), 2004);
    }

    private static void messageOutside() {
        Check.says("The k-th oldest message in the air (0 on)");
        Net net = new Net(3);
        Check.due("of an empty air", net.table.message(0, 0), -1);
        net.ask(3, Net.PUT, 0, 5).stamped(1, 1).table.lose(0);
        int[][] want = {{2, 0, -1, 2}, {3, 11, 1, 3}};
        for (int k = 0; k <= 1; k++) {
            for (int what = 0; what <= 3; what++) {
                Check.due("message(" + k + ", " + what + ")", net.table.message(k, what), want[k][what]);
            }
        }
        Check.says("NONE if there is none such, or for another what.");
        for (int k = 0; k <= 1; k++) {
            for (int what : new int[] {-1, 4, 5, MIN, MAX}) {
                Check.due("message(" + k + ", " + what + ")", net.table.message(k, what), -1);
            }
        }
        for (int k : new int[] {-1, 2, 3, 199, 200, MIN, MAX}) {
            for (int what = -1; what <= 4; what++) {
                Check.due("message(" + k + ", " + what + ")", net.table.message(k, what), -1);
            }
        }
        Net full = new Net(3).ask(0, Net.PUT, 0, 5);
        for (int i = 0; i < 66; i++) {
            full.table.again(0);
        }
        Check.due("the last of 200", full.table.message(199, 0) * 10 + full.table.message(199, 3), 1991);
        Check.due("beyond 200", full.table.message(200, 0), -1);
    }

    private static void kind(Net net, String name, int kind, int from, int to) {
        int k = net.table.air().indexOf(net.numberOf(name, from, to));
        Check.due(name + ", KIND", net.table.message(k, 1), kind);
        Check.due(name + ", from", net.table.message(k, 2), from);
        Check.due(name + ", to", net.table.message(k, 3), to);
    }

    private static void messageKinds() {
        Check.says("KIND (1: 0 STAMPED, 1 LOOKUP, 2 FOUND, 3 GAP COMMIT, 4 GAP REPLY, 5 SYNC, 6 SYNC REPLY, 7 POINT, 8 TURN, 9 TURNED, 10 START, 11 REPLY), from (2; a replica, NONE by the sequencer), to (3; a replica, of REPLY a client).");
        Net net = new Net(3).ask(3, Net.PUT, 0, 5).ask(1, Net.PUT, 0, 5).stamped(1, 0).stamped(2, 1);
        kind(net, "STAMPED", 0, -1, 2);
        kind(net, "REPLY", 11, 0, 3);
        kind(net, "LOOKUP", 1, 1, 0);
        kind(net.deliver("LOOKUP", 1, 0), "FOUND", 2, 0, 1);
        net.deliver("FOUND", 0, 1).table.sync(0);
        kind(net, "SYNC", 5, 0, 2);
        kind(net.deliver("SYNC", 0, 1), "SYNC REPLY", 6, 1, 0);
        kind(net.deliver("SYNC REPLY", 1, 0), "POINT", 7, 0, 2);
        Net gap = new Net(3).ask(0, Net.PUT, 0, 5).again(0).stamped(2, 0);
        kind(gap, "GAP COMMIT", 3, 0, 1);
        kind(gap.deliver("GAP COMMIT", 0, 2), "GAP REPLY", 4, 2, 0);
        gap.table.suspect(2);
        kind(gap, "TURN", 8, 2, 1);
        kind(gap, "TURNED", 9, 2, 1);
        kind(gap.deliver("TURNED", 2, 1), "START", 10, 1, 0);
    }

    private static void none() {
        Check.says("The constants: `NONE = -1`: None.");
        Check.due("NONE", OrderedTable.NONE, -1);
    }

    private static void brokenOfNone() {
        Check.says("Of the latest 200 requests that were ACCEPTED, how many are not held to");
        Net net = new Net(3);
        Check.due("none was ACCEPTED", net.table.broken(), 0);
        net.ask(0, Net.PUT, 0, 5);
        Check.due("one is open", net.table.broken(), 0);
        net.settle();
        Check.due("one is held to", net.table.broken(), 0);
        Net full = new Net(3).grow(100);
        Check.due("a hundred", full.table.about(6) * 10 + full.table.broken(), 1000);
    }

    private static void brokenOfAChange() {
        Check.says("some replica leads its view and is not in CHANGE");
        Net net = new Net(3).ask(0, Net.PUT, 0, 5).stamped(1, 0, 1).settle();
        net.ask(1, Net.PUT, 0, 6).stamped(2, 0, 1).deliver("REPLY", 0, 1).deliver("REPLY", 1, 1).loseAll();
        Check.due("one that does not lead has it not", net.table.replica(2, 5) * 10 + net.table.broken(), 10);
        net.table.suspect(2);
        net.table.suspect(2);
        Check.due("it leads, in CHANGE", net.state(2), "CHANGE 2/1 base 0 log 1 point 0 held 0 last 0/1 synced 0");
        Check.due("which does not count", net.table.broken(), 0);
        net.table.down(0);
        net.table.suspect(1);
        net.table.suspect(1);
        net.deliver("TURNED", 1, 2);
        Check.due("the new leader has it", net.table.broken() + " " + net.log(2), "0 0.1 1.1");
    }

    private static void brokenOfAnOldLeader() {
        Check.says("its view is that of the ACCEPTED one, or that is behind it");
        Net net = new Net(3).toView(2, 1, 1);
        net.table.nudge(2);
        net.deliver("TURNED", 2, 1).deliver("START", 1, 2).loseAll().ask(0, Net.PUT, 0, 5).stamped(1, 1, 2);
        net.deliver("REPLY", 1, 0).deliver("REPLY", 2, 0);
        Check.due("ACCEPTED in a later view", net.client(0), "2 slot 1 view 1/1 answer 0");
        Check.due("the old leader has it not", net.state(0) + " " + net.table.broken(),
            "NORMAL 0/1 base 0 log 0 point 0 held 0 last 0/1 synced 0 0");
        net.table.down(1);
        Check.due("nor does it count when the other one is DOWN", net.table.broken(), 0);
    }

    private static void brokenOfARepeatedRequest() {
        Check.says("or has executed it, where it stands in its log first, with another ANSWER");
        Net net = new Net(3).ask(0, Net.ADD, 0, 5).ask(1, Net.ADD, 0, 7).again(0);
        net.stamped(1, 0, 1).stamped(2, 0, 1).loseAll("REPLY").stamped(3, 0, 1).settle();
        Check.due("ACCEPTED where it stands second", net.client(0), "2 slot 3 view 0/1 answer 0");
        Check.due("the ANSWER is that of the first", net.table.broken(), 0);
        Net gap = new Net(3).ask(0, Net.ADD, 0, 5).again(0).stamped(2, 0).settle();
        Check.due("behind a NOTHING", gap.client(0) + " " + gap.table.broken(), "2 slot 2 view 0/1 answer 0 0");
    }
}
