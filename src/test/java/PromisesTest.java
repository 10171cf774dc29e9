/** Promise by promise: ordinary calls, the edges that the document names, wrong inputs. */
final class PromisesTest {
    private static final int MIN = Integer.MIN_VALUE;
    private static final int MAX = Integer.MAX_VALUE;
    private static final Class<IndexOutOfBoundsException> OUTSIDE = IndexOutOfBoundsException.class;
    private static final Class<IllegalArgumentException> BAD = IllegalArgumentException.class;
    private static final Class<IllegalStateException> STATE = IllegalStateException.class;

    public static void main(String[] args) {
        promise1NewObject();
        promise2Request();
        promise2RequestRefused();
        promise3Again();
        promise4Deliver();
        promise5Lose();
        promise6Flow();
        promise7Down();
        promise8Up();
        promise9Suspect();
        promise10Nudge();
        promise11Sync();
        promise12Fail();
        promise13Install();
        promise14Replica();
        promise15Entry();
        promise16Word();
        promise17And18Client();
        promise19About();
        promise20Message();
        Check.end();
    }

    private static void promise1NewObject() {
        int[][] sizes = {{0, 3}, {1, 5}, {2, 7}, {3, 3}, {4, 5}, {-1, 7}, {-2, 5}, {-3, 3}, {MIN, 5}, {MAX, 5}};
        for (int[] s : sizes) {
            OrderedTable t = new OrderedTable(s[0]);
            Check.due("N of " + s[0] + ", last replica", t.replica(s[1] - 1, 0), 0);
            Check.due("N of " + s[0] + ", beyond", t.replica(s[1], 0), -1);
            t.request(0, 0, 0, 0);
            Check.due("N of " + s[0] + " is told", t.about(0), s[1]);
        }
        Net net = new Net(5);
        for (int r = 0; r < 5; r++) {
            Check.due("a new replica", net.state(r), "NORMAL 0/1 base 0 log 0 point 0 held 0 last 0/1 synced 0");
            Check.due("a new replica is not DOWN", net.table.replica(r, 0), 0);
            for (int key = 0; key < 8; key++) {
                Check.due("a new word", net.table.word(r, key), 0);
            }
        }
        for (int c = 0; c < 4; c++) {
            Check.due("a new client had", net.table.client(c, 0), 0);
            Check.due("a new client", net.client(c), "0 slot -1 view -1/-1 answer 0");
        }
        int[] about = {0, 0, 0, 1, 1, 0, 0};
        for (int what = 0; what < about.length; what++) {
            Check.due("about(" + what + ") of a new object", net.table.about(what), about[what]);
        }
        Check.due("NONE", OrderedTable.NONE, -1);
        Check.due("broken of a new object", net.table.broken(), 0);
        Net other = new Net(3);
        other.ask(0, Net.PUT, 0, 1).settle();
        Check.due("objects share nothing", new Net(3).table.word(0, 0) + net.table.about(1), 0);
    }

    private static void promise2Request() {
        Net net = new Net(3);
        Table t = net.table;
        Check.due("a client's first request", t.request(2, Net.ADD, 7, -9), 1);
        Check.due("a request is stamped", net.air(), "STAMPED *>0, STAMPED *>1, STAMPED *>2");
        Check.due("COUNT", t.about(5), 1);
        Check.due("another client's first", t.request(0, Net.GET, 0, 3), 1);
        Check.due("another one's first", t.request(3, Net.PUT, 3, MIN), 1);
        Check.due("COUNT grows", t.about(5), 3);
        Check.due("open", t.client(2, 1), 1);
        net.settle();
        Check.due("a client's second", t.request(2, Net.GET, 7, 0), 2);
        Check.due("the second is open", net.client(2), "1 slot -1 view -1/-1 answer 0");
        net.settle();
        Check.due("a client's third", t.request(2, Net.GET, 0, 0), 3);
        Check.due("of another one only one", t.client(3, 0), 1);
        t.fail();
        Check.due("without a sequencer it has its number", t.request(0, Net.PUT, 1, 1), 2);
        Check.due("and is open", t.client(0, 1), 1);
        Check.due("but nothing is sent", t.about(0), 3);
        Check.due("and COUNT stays", t.about(5), 5);
    }

    private static void promise2RequestRefused() {
        Net net = new Net(3);
        Table t = net.table;
        for (int c : new int[] {-1, 4, MIN, MAX}) {
            Check.raises("request of client " + c, OUTSIDE, () -> t.request(c, 0, 0, 0));
            Check.raises("request of client " + c + " of no kind", OUTSIDE, () -> t.request(c, 9, 0, 0));
        }
        for (int key : new int[] {-1, 8, MIN, MAX}) {
            Check.raises("request of key " + key, OUTSIDE, () -> t.request(0, 0, key, 0));
            Check.raises("request of key " + key + " of no kind", OUTSIDE, () -> t.request(0, -1, key, 0));
        }
        for (int kind : new int[] {-1, 3, MIN, MAX}) {
            Check.raises("request of kind " + kind, BAD, () -> t.request(0, kind, 0, 0));
        }
        Check.due("a refused one is none", t.client(0, 0) + t.client(0, 1) + t.about(1) + t.about(5), 0);
        t.request(0, 0, 0, 0);
        Check.raises("request while one is open", STATE, () -> t.request(0, 0, 0, 0));
        Check.raises("of no kind while one is open", BAD, () -> t.request(0, 3, 0, 0));
        Check.raises("of no key while one is open", OUTSIDE, () -> t.request(0, 0, 8, 0));
        Check.due("the open one stays", t.client(0, 0) * 10 + t.client(0, 1), 11);
        Check.due("no more is stamped", t.about(1), 3);
    }

    private static void promise3Again() {
        Net net = new Net(3);
        Table t = net.table;
        for (int c : new int[] {-1, 4, MIN, MAX}) {
            Check.raises("again of client " + c, OUTSIDE, () -> t.again(c));
        }
        Check.raises("again without any", STATE, () -> t.again(0));
        net.ask(0, Net.ADD, 0, 5).ask(1, Net.ADD, 0, 7);
        t.again(0);
        Check.due("again stamps", net.air(), "STAMPED *>0, STAMPED *>1, STAMPED *>2, STAMPED *>0, STAMPED *>1, "
            + "STAMPED *>2, STAMPED *>0, STAMPED *>1, STAMPED *>2");
        Check.due("again counts", t.about(5), 3);
        Check.due("again is no new request", t.client(0, 0), 1);
        net.settle();
        Check.due("the log of it", net.log(0), "0.1 1.1 0.1");
        Check.due("done once", t.word(0, 0), 12);
        Check.due("accepted", net.client(0), "2 slot 1 view 0/1 answer 0");
        Check.raises("again of an accepted one", STATE, () -> t.again(0));
        net.ask(0, Net.GET, 0, 0);
        t.fail();
        t.again(0);
        Check.due("again without a sequencer", t.about(0) * 10 + t.about(5), 34);
    }

    private static void promise4Deliver() {
        Net net = new Net(3);
        Table t = net.table;
        for (int number : new int[] {0, -1, 1, MIN, MAX}) {
            Check.raises("deliver(" + number + ") in a new object", BAD, () -> t.deliver(number));
        }
        net.ask(0, Net.PUT, 0, 4);
        t.deliver(2);
        Check.due("delivered to its replica", net.log(0) + "|" + net.log(1) + "|" + net.log(2), "||0.1");
        Check.due("its REPLY is sent", net.air(), "STAMPED *>0, STAMPED *>1, REPLY 2>0");
        Check.raises("deliver of one delivered", BAD, () -> t.deliver(2));
        t.deliver(3);
        Check.due("delivered to its client only", net.air(), "STAMPED *>0, STAMPED *>1");
        t.lose(0);
        Check.raises("deliver of one lost", BAD, () -> t.deliver(0));
        Check.raises("deliver of one not sent yet", BAD, () -> t.deliver(4));
        t.down(1);
        t.deliver(1);
        Check.due("delivered to one that is DOWN", t.about(0) * 100 + t.about(2), 2);
        Check.due("of which nothing comes", net.log(1), "");
    }

    private static void promise5Lose() {
        Net net = new Net(3);
        Table t = net.table;
        for (int number : new int[] {0, -1, MIN, MAX}) {
            Check.raises("lose(" + number + ") in a new object", BAD, () -> t.lose(number));
        }
        net.ask(0, Net.PUT, 0, 4);
        t.lose(1);
        Check.due("lost", net.air(), "STAMPED *>0, STAMPED *>2");
        Check.due("lost is counted", t.about(2), 1);
        Check.raises("lose of one lost", BAD, () -> t.lose(1));
        t.deliver(0);
        Check.raises("lose of one delivered", BAD, () -> t.lose(0));
        t.lose(3);
        Check.due("a lost REPLY", net.air(), "STAMPED *>2");
        net.settle();
        Check.due("does not come", t.client(0, 1), 1);
        Check.due("nothing comes of a lost one", net.log(1), "");
        Check.due("all that were lost", t.about(2), 2);
    }

    private static void promise6Flow() {
        Net net = new Net(3);
        Table t = net.table;
        for (int n : new int[] {-1, 41, MIN, MAX}) {
            Check.raises("flow(" + n + ")", BAD, () -> t.flow(n));
        }
        Check.due("flow(0)", t.flow(0), 0);
        Check.due("flow of an empty air", t.flow(40), 0);
        net.ask(0, Net.PUT, 0, 4);
        Check.due("flow(0) with some there", t.flow(0), 0);
        Check.due("flow(1)", t.flow(1), 1);
        Check.due("the oldest came", net.air(), "STAMPED *>1, STAMPED *>2, REPLY 0>0");
        Check.due("also such as come by it", t.flow(40), 5);
        net.ask(1, Net.PUT, 0, 4);
        t.down(1);
        Check.due("also to one that is DOWN", t.flow(40), 5);
        Check.due("that is lost", t.about(2), 1);
        for (int c = 0; c < 4; c++) {
            net.ask(c, Net.GET, 0, 0);
        }
        for (int i = 0; i < 10; i++) {
            t.again(0);
        }
        Check.due("at most n", t.flow(40), 40);
        Check.due("the rest stays", t.about(0), 42 + 14 + 13 - 40);
    }

    private static void promise7Down() {
        Net net = new Net(5);
        Table t = net.table;
        for (int r : new int[] {-1, 5, MIN, MAX}) {
            Check.raises("down(" + r + ")", OUTSIDE, () -> t.down(r));
        }
        t.down(4);
        Check.due("DOWN", t.replica(4, 0), 1);
        Check.raises("down of one that is", STATE, () -> t.down(4));
        t.down(0);
        Check.raises("down of a third of five", STATE, () -> t.down(1));
        Check.due("a refused one is not DOWN", t.replica(1, 0), 0);
        t.up(4);
        t.down(1);
        Check.due("F in all", t.replica(0, 0) + t.replica(1, 0) + t.replica(4, 0), 2);
        Net three = new Net(3);
        three.table.down(2);
        Check.raises("down of a second of three", STATE, () -> three.table.down(0));
        Net seven = new Net(7);
        seven.table.down(2);
        seven.table.down(3);
        seven.table.down(6);
        Check.raises("down of a fourth of seven", STATE, () -> seven.table.down(0));
        downHoldsNothing();
        downCountsNothing();
    }

    private static void downHoldsNothing() {
        Net net = new Net(3);
        Table t = net.table;
        net.ask(0, Net.PUT, 0, 4).settle();
        t.sync(0);
        net.settle();
        net.ask(0, Net.PUT, 0, 5).ask(1, Net.PUT, 0, 6);
        net.lose("STAMPED", -1, 1).deliver("STAMPED", -1, 1);
        Check.due("before it goes DOWN", net.state(1), "NORMAL 0/1 base 0 log 1 point 1 held 1 last 0/1 synced 1");
        t.down(1);
        Check.due("a DOWN one holds nothing", net.state(1), "NORMAL 0/1 base 0 log 1 point 1 held 0 last 0/1 synced 1");
        Check.due("its words are told", t.word(1, 0), 4);
        t.up(1);
        Check.due("all else stays", net.state(1), "NORMAL 0/1 base 0 log 1 point 1 held 0 last 0/1 synced 1");
        Check.due("its log too", net.log(1), "0.1");
    }

    private static void downCountsNothing() {
        Net net = new Net(5);
        net.ask(0, Net.PUT, 0, 4).ask(1, Net.PUT, 0, 5);
        net.lose("STAMPED", -1, 0).deliver("STAMPED", -1, 0).loseAll("STAMPED");
        net.deliver("GAP COMMIT", 0, 1).deliver("GAP COMMIT", 0, 2);
        net.deliver("GAP REPLY", 1, 0);
        net.table.down(0);
        net.table.up(0);
        net.deliver("GAP REPLY", 2, 0);
        Check.due("GAP REPLYs are counted no more", net.state(0),
            "GAP 0/1 base 0 log 1 point 0 held 0 last 0/1 synced 0");
        net.deliver("GAP COMMIT", 0, 3).deliver("GAP REPLY", 3, 0);
        Check.due("but anew", net.table.replica(0, 1), 0);

        Net turn = new Net(5);
        turn.table.suspect(0);
        turn.deliver("TURNED", 0, 1);
        turn.table.down(1);
        turn.table.up(1);
        turn.deliver("TURN", 0, 2).deliver("TURNED", 2, 1);
        Check.due("TURNED are counted no more", turn.table.replica(1, 1), 2);
        turn.deliver("TURN", 0, 3).deliver("TURNED", 3, 1);
        Check.due("but anew", turn.table.replica(1, 1), 0);

        Net sync = new Net(5);
        sync.ask(0, Net.PUT, 0, 4).settle();
        sync.table.sync(0);
        for (int r = 1; r < 5; r++) {
            sync.deliver("SYNC", 0, r);
        }
        sync.deliver("SYNC REPLY", 1, 0);
        sync.table.down(0);
        sync.table.up(0);
        sync.deliver("SYNC REPLY", 2, 0);
        Check.due("SYNC REPLYs are counted no more", sync.table.replica(0, 6), 0);
        sync.deliver("SYNC REPLY", 3, 0);
        Check.due("but anew", sync.table.replica(0, 6), 1);
    }

    private static void promise8Up() {
        Net net = new Net(3);
        Table t = net.table;
        for (int r : new int[] {-1, 3, MIN, MAX}) {
            Check.raises("up(" + r + ")", OUTSIDE, () -> t.up(r));
        }
        Check.raises("up of one that is not DOWN", STATE, () -> t.up(0));
        t.down(0);
        t.up(0);
        Check.due("there again", t.replica(0, 0), 0);
        Check.raises("up of one that is there again", STATE, () -> t.up(0));
        net.ask(0, Net.PUT, 0, 4).settle();
        Check.due("messages reach it", net.log(0), "0.1");
        Check.due("nothing is sent by down and up", t.about(1), 6);
    }

    private static void promise9Suspect() {
        Net net = new Net(5);
        Table t = net.table;
        for (int r : new int[] {-1, 5, MIN, MAX}) {
            Check.raises("suspect(" + r + ")", OUTSIDE, () -> t.suspect(r));
        }
        t.suspect(3);
        Check.due("suspect", net.state(3), "CHANGE 1/1 base 0 log 0 point 0 held 0 last 0/1 synced 0");
        Check.due("it is told", net.air(), "TURN 3>0, TURN 3>1, TURN 3>2, TURN 3>4, TURNED 3>1");
        net.loseAll();
        t.suspect(3);
        Check.due("in CHANGE too", net.state(3), "CHANGE 2/1 base 0 log 0 point 0 held 0 last 0/1 synced 0");
        net.loseAll();
        t.suspect(3);
        Check.due("to itself no TURNED is sent", net.air(), "TURN 3>0, TURN 3>1, TURN 3>2, TURN 3>4");
        net.loseAll();
        t.suspect(3);
        t.suspect(3);
        Check.due("L is not cut", t.replica(3, 2), 5);
        Check.due("the leader is", net.air(), "TURN 3>0, TURN 3>1, TURN 3>2, TURN 3>4, TURNED 3>4, "
            + "TURN 3>0, TURN 3>1, TURN 3>2, TURN 3>4, TURNED 3>0");
        t.down(3);
        Check.raises("suspect of one that is DOWN", STATE, () -> t.suspect(3));
        t.suspect(0);
        Check.due("a leader may suspect itself", t.replica(0, 2), 1);
    }

    private static void promise10Nudge() {
        Net net = new Net(5);
        Table t = net.table;
        for (int r : new int[] {-1, 5, MIN, MAX}) {
            Check.raises("nudge(" + r + ")", OUTSIDE, () -> t.nudge(r));
        }
        Check.due("nudge of one that waits for nothing", t.nudge(1) + t.nudge(0) + t.about(1), 0);
        net.ask(0, Net.PUT, 0, 4).ask(1, Net.PUT, 0, 5);
        net.lose("STAMPED", -1, 1).deliver("STAMPED", -1, 1).loseAll("LOOKUP");
        Check.due("nudge with one HELD", t.nudge(1), 1);
        net.deliver("STAMPED", -1, 0).deliver("LOOKUP", 1, 0);
        Check.due("the next slot was asked for", net.deliver("FOUND", 0, 1).log(1), "0.1 1.1");
        Check.due("then it waits no more", t.nudge(1), 0);
        net.loseAll();
        net.ask(2, Net.PUT, 0, 6);
        net.deliver("STAMPED", -1, 0);
        Check.due("a leader misses the second", net.state(0), "GAP 0/1 base 0 log 2 point 0 held 1 last 0/1 synced 0");
        net.loseAll("GAP COMMIT").loseAll("STAMPED").loseAll("REPLY");
        Check.due("nudge in GAP", t.nudge(0), 4);
        Check.due("asks all others", net.air(), "GAP COMMIT 0>1, GAP COMMIT 0>2, GAP COMMIT 0>3, GAP COMMIT 0>4");
        net.deliver("GAP COMMIT", 0, 1).deliver("GAP REPLY", 1, 0);
        Check.due("that slot", net.log(1), "0.1 -");
        t.nudge(0);
        net.ask(3, Net.PUT, 0, 7);
        net.deliver("STAMPED", -1, 2).lose("GAP COMMIT", 0, 3).deliver("GAP COMMIT", 0, 3);
        Check.due("not the next one there", net.log(3), "");
        nudgeCountsNothingAnew();
        nudgeInChange();
    }

    private static void nudgeCountsNothingAnew() {
        Net net = new Net(5);
        net.ask(0, Net.PUT, 0, 4).ask(1, Net.PUT, 0, 5);
        net.lose("STAMPED", -1, 0).deliver("STAMPED", -1, 0).loseAll("STAMPED");
        net.deliver("GAP COMMIT", 0, 1).deliver("GAP REPLY", 1, 0);
        net.table.nudge(0);
        net.deliver("GAP COMMIT", 0, 2).deliver("GAP REPLY", 2, 0);
        Check.due("GAP REPLYs before and after a nudge", net.table.replica(0, 1), 0);
    }

    private static void nudgeInChange() {
        Net net = new Net(5);
        Table t = net.table;
        t.suspect(2);
        net.loseAll();
        Check.due("nudge in CHANGE", t.nudge(2), 5);
        Check.due("asks for the view", net.air(), "TURN 2>0, TURN 2>1, TURN 2>3, TURN 2>4, TURNED 2>1");
        Check.due("and stays as it is", net.state(2), "CHANGE 1/1 base 0 log 0 point 0 held 0 last 0/1 synced 0");
        net.loseAll();
        t.suspect(1);
        net.loseAll();
        Check.due("nudge of the coming leader", t.nudge(1), 4);
        Check.due("not to itself", net.air(), "TURN 1>0, TURN 1>2, TURN 1>3, TURN 1>4");
        for (int i = 0; i < 48; i++) {
            t.nudge(1);
        }
        Check.due("the air", t.about(0), 196);
        Check.due("also such as were lost at once", t.nudge(2), 5);
        Check.due("lost at once", t.about(0) * 100 + t.about(2), 20000 + 5 + 5 + 4 + 1);
        t.down(2);
        Check.raises("nudge of one that is DOWN", STATE, () -> t.nudge(2));
    }

    private static void promise11Sync() {
        Net net = new Net(5);
        Table t = net.table;
        for (int r : new int[] {-1, 5, MIN, MAX}) {
            Check.raises("sync(" + r + ")", OUTSIDE, () -> t.sync(r));
        }
        Check.raises("sync of one that does not lead", STATE, () -> t.sync(1));
        t.sync(0);
        Check.due("sync of an empty log", net.air(), "SYNC 0>1, SYNC 0>2, SYNC 0>3, SYNC 0>4");
        net.settle();
        net.ask(0, Net.PUT, 0, 4).settle();
        t.sync(0);
        net.ask(1, Net.PUT, 0, 5);
        net.deliver("STAMPED", -1, 0).deliver("SYNC", 0, 1);
        Check.due("the log as it was then", t.replica(1, 10), 1);
        net.settle();
        Check.due("POINT of the leader", net.state(0), "NORMAL 0/1 base 0 log 2 point 1 held 0 last 0/1 synced 0");
        Check.due("POINT of another one", net.state(4), "NORMAL 0/1 base 0 log 2 point 1 held 0 last 0/1 synced 1");
        net.ask(2, Net.PUT, 0, 5).ask(3, Net.PUT, 0, 5);
        net.lose("STAMPED", -1, 0).deliver("STAMPED", -1, 0);
        Check.raises("sync in GAP", STATE, () -> t.sync(0));
        t.suspect(0);
        Check.raises("sync of one that leads no more", STATE, () -> t.sync(0));
        t.suspect(1);
        Check.raises("sync in CHANGE", STATE, () -> t.sync(1));
        Net down = new Net(3);
        down.table.down(0);
        Check.raises("sync of one that is DOWN", STATE, () -> down.table.sync(0));
        down.table.up(0);
        down.table.sync(0);
        Check.due("sync of one that is there again", down.table.about(0), 2);
    }

    private static void promise12Fail() {
        Net net = new Net(3);
        Table t = net.table;
        net.ask(0, Net.PUT, 0, 1);
        Check.due("fail", t.fail() ? 1 : 0, 1);
        Check.due("fail of one that is not up", t.fail() ? 1 : 0, 0);
        Check.due("not up", t.about(3), 0);
        Check.due("what was stamped comes", net.settle().client(0), "2 slot 1 view 0/1 answer 0");
        t.install();
        Check.due("fail of a new one", t.fail() ? 1 : 0, 1);
    }

    private static void promise13Install() {
        Net net = new Net(3);
        Table t = net.table;
        net.ask(0, Net.PUT, 0, 1).ask(1, Net.PUT, 0, 2).settle();
        Check.due("install in the place of one that is up", t.install(), 2);
        Check.due("SESSION, COUNT", t.about(4) * 10 + t.about(5), 20);
        Check.due("up", t.about(3), 1);
        t.fail();
        Check.due("install after a fail", t.install(), 3);
        Check.due("up again", t.about(3), 1);
        Check.due("nothing is sent by it", t.about(0), 0);
        net.ask(0, Net.PUT, 1, 1);
        Check.due("it counts from 1", t.about(5), 1);
        net.settle();
        Check.due("all come to its session", t.replica(0, 3) + t.replica(1, 3) + t.replica(2, 3), 9);
        t.again(0);
        net.settle();
        Check.due("and take its requests; the one that turned them is missing",
            net.log(0) + "|" + net.log(1) + "|" + net.log(2), "0.1 1.1 - 0.2|0.1 1.1 - 0.2|0.1 1.1 - 0.2");
    }

    private static void promise14Replica() {
        Net net = new Net(3);
        Table t = net.table;
        net.ask(0, Net.PUT, 0, 1).settle();
        t.sync(0);
        net.settle();
        t.install();
        net.ask(0, Net.PUT, 0, 2).settle();
        t.again(0);
        t.again(0);
        t.again(0);
        net.lose("STAMPED", -1, 1).deliver("STAMPED", -1, 1).deliver("STAMPED", -1, 1);
        int[] want = {0, 0, 0, 2, 1, 1, 1, 2, 0, 2, 0};
        for (int what = 0; what < want.length; what++) {
            Check.due("replica(1, " + what + ")", t.replica(1, what), want[what]);
        }
        t.suspect(1);
        t.down(1);
        int[] then = {1, 2, 1, 2, 1, 1, 1, 0, 0, 2, 0};
        for (int what = 0; what < then.length; what++) {
            Check.due("replica(1, " + what + ") then", t.replica(1, what), then[what]);
        }
        for (int what : new int[] {-1, 11, MIN, MAX}) {
            Check.due("replica(1, " + what + ")", t.replica(1, what), -1);
        }
        for (int r : new int[] {-1, 3, MIN, MAX}) {
            for (int what = -1; what <= 11; what++) {
                Check.due("replica(" + r + ", " + what + ")", t.replica(r, what), -1);
            }
        }
    }

    private static void promise15Entry() {
        Net net = new Net(3);
        Table t = net.table;
        net.ask(3, Net.ADD, 6, -8).settle();
        net.ask(1, Net.PUT, 2, 5).ask(2, Net.GET, 4, 77);
        net.lose("STAMPED", -1, 0).deliver("STAMPED", -1, 0).deliver("GAP COMMIT", 0, 2).settle();
        int[][] want = {{1, 3, 1, Net.ADD, 6, -8}, {0, -1, -1, -1, -1, 0}, {1, 2, 1, Net.GET, 4, 77}};
        for (int slot = 1; slot <= 3; slot++) {
            for (int what = 0; what <= 5; what++) {
                Check.due("entry(0, " + slot + ", " + what + ")", t.entry(0, slot, what), want[slot - 1][what]);
            }
        }
        for (int slot = 1; slot <= 3; slot++) {
            for (int what : new int[] {-1, 6, MIN, MAX}) {
                Check.due("entry(0, " + slot + ", " + what + ")", t.entry(0, slot, what), -1);
            }
        }
        int[][] none = {{0, 0}, {0, 4}, {0, -1}, {0, 101}, {0, MIN}, {0, MAX}, {-1, 1}, {3, 1}, {MIN, 1}, {MAX, 1}};
        for (int[] at : none) {
            for (int what = -1; what <= 6; what++) {
                Check.due("entry(" + at[0] + ", " + at[1] + ", " + what + ")", t.entry(at[0], at[1], what),
                    what == 5 ? 0 : -1);
            }
        }
    }

    private static void promise16Word() {
        Net net = new Net(3);
        Table t = net.table;
        net.ask(0, Net.PUT, 3, MAX).ask(1, Net.ADD, 3, 2).ask(2, Net.ADD, 5, 9).ask(3, Net.GET, 3, 44).settle();
        Check.due("PUT and ADD, that runs over", t.word(0, 3), MIN + 1);
        Check.due("ADD alone", t.word(0, 5), 9);
        Check.due("another key", t.word(0, 4), 0);
        Check.due("one that does not lead, before POINT", t.word(1, 3), 0);
        t.sync(0);
        net.settle();
        Check.due("and up to POINT", t.word(1, 3), MIN + 1);
        net.ask(0, Net.PUT, 3, 1).settle();
        Check.due("POINT stays", t.word(1, 3), MIN + 1);
        Check.due("the leader is further", t.word(0, 3), 1);
        t.suspect(0);
        Check.due("a leader no more: up to POINT", t.word(0, 3), MIN + 1);
        t.suspect(1);
        Check.due("a leader in CHANGE: up to POINT", t.word(1, 3), MIN + 1);
        net.settle();
        Check.due("a leader again", t.word(1, 3), 1);
        t.down(1);
        Check.due("one that is DOWN", t.word(1, 3), 1);
        for (int r : new int[] {-1, 3, MIN, MAX}) {
            Check.due("word(" + r + ", 3)", t.word(r, 3), 0);
        }
        for (int key : new int[] {-1, 8, MIN, MAX}) {
            Check.due("word(1, " + key + ")", t.word(1, key), 0);
        }
    }

    private static void promise17And18Client() {
        Net net = new Net(3);
        Table t = net.table;
        net.ask(2, Net.PUT, 0, 6).settle();
        t.suspect(1);
        net.settle();
        net.ask(0, Net.GET, 0, 0);
        Check.due("an open one", t.client(0, 0) + " " + net.client(0), "1 1 slot -1 view -1/-1 answer 0");
        net.settle();
        Check.due("an accepted one", t.client(0, 0) + " " + net.client(0), "1 2 slot 2 view 1/1 answer 6");
        Check.due("what is there no more", t.client(0, 5) + t.client(0, -1) + t.client(0, MIN) + t.client(0, MAX), -4);
        net.ask(0, Net.PUT, 0, 9);
        Check.due("the answer stays while a later one is open", net.client(0), "1 slot -1 view -1/-1 answer 6");
        net.settle();
        net.ask(0, Net.GET, 0, 9).settle();
        Check.due("the later one", t.client(0, 0) + " " + net.client(0), "3 2 slot 4 view 1/1 answer 9");
        Check.due("another client's", net.client(2), "2 slot 1 view 0/1 answer 0");
        for (int c : new int[] {-1, 4, MIN, MAX}) {
            for (int what = -1; what <= 5; what++) {
                Check.due("client(" + c + ", " + what + ")", t.client(c, what), -1);
            }
            Check.due("answer(" + c + ")", t.answer(c), 0);
        }
        Check.due("a client without any", t.client(3, 0) + " " + net.client(3), "0 0 slot -1 view -1/-1 answer 0");
    }

    private static void promise19About() {
        Net net = new Net(3);
        Table t = net.table;
        net.ask(0, Net.PUT, 0, 6).ask(1, Net.GET, 0, 0);
        t.lose(5);
        t.flow(3);
        t.down(2);
        int[] want = {5, 9, 1, 1, 1, 2, 0};
        for (int what = 0; what < want.length; what++) {
            Check.due("about(" + what + ")", t.about(what), want[what]);
        }
        net.settle();
        t.install();
        t.fail();
        int[] then = {0, 11, 1, 0, 2, 0, 2};
        for (int what = 0; what < then.length; what++) {
            Check.due("about(" + what + ") then", t.about(what), then[what]);
        }
        for (int what : new int[] {-1, 7, MIN, MAX}) {
            Check.due("about(" + what + ")", t.about(what), -1);
        }
    }

    private static void promise20Message() {
        Net net = new Net(3);
        Table t = net.table;
        Check.due("of an empty air", t.message(0, 0), -1);
        net.ask(3, Net.PUT, 0, 6);
        t.deliver(1);
        t.lose(2);
        int[][] want = {{0, 0, -1, 0}, {3, 11, 1, 3}};
        for (int k = 0; k < want.length; k++) {
            for (int what = 0; what < 4; what++) {
                Check.due("message(" + k + ", " + what + ")", t.message(k, what), want[k][what]);
            }
            for (int what : new int[] {-1, 4, MIN, MAX}) {
                Check.due("message(" + k + ", " + what + ")", t.message(k, what), -1);
            }
        }
        for (int k : new int[] {-1, 2, 200, MIN, MAX}) {
            for (int what = -1; what <= 4; what++) {
                Check.due("message(" + k + ", " + what + ")", t.message(k, what), -1);
            }
        }
    }
}
