import java.lang.reflect.Array;

/**
 * Boundary cases that the document names and that no calls bring about, because replicas that keep to it
 * never come there: they are made by changing the object behind its back.
 */
final class UnreachableTest {
    private static final int CHANGE = 2;

    public static void main(String[] args) {
        if (!Behind.fits()) {
            return;
        }
        pointBeyondTheLog();
        numberBelowTheLatest();
        numberThatIsHeld();
        foundInsteadOfWhatIsHeld();
        gapCommitToAFullLog();
        gapCommitOfWhatIsHeld();
        greatestBySThenL();
        requestOfItsOwnFirst();
        requestByNumbers();
        baseOfItsOwnFirst();
        baseOfTheLowestNumber();
        leadersLatestAnswer();
        messagesInChange();
        messagesToTheWrongOne();
        gapReplyWhenNormal();
        latestTwoHundred();
        Check.end();
    }

    private static void pointBeyondTheLog() {
        Check.says("those up to POINT (to its log's end, if that comes first)");
        Net net = new Net(3).ask(0, Net.PUT, 0, 5).ask(1, Net.ADD, 0, 6).settle();
        for (int point = 0; point <= 4; point++) {
            Behind.set(Behind.replica(net, 1), "point", point);
            Check.due("POINT " + point + " of 2", net.table.word(1, 0), point == 0 ? 0 : point == 1 ? 5 : 11);
        }
        Behind.set(Behind.replica(net, 1), "point", Integer.MAX_VALUE);
        Check.due("the greatest POINT", net.table.word(1, 0), 11);
        Behind.cutLog(net, 1, 0);
        Check.due("of an empty log", net.table.word(1, 0), 0);
    }

    private static void numberBelowTheLatest() {
        Check.says("by the leader only if that request's number is the latest executed one's");
        Net net = new Net(3).ask(0, Net.ADD, 0, 5).again(0).stamped(1, 0, 1).deliver("REPLY", 0, 0).deliver("REPLY", 1, 0);
        net.ask(0, Net.ADD, 0, 60).loseAllBut(3, 4, 5);
        Behind.putEntry(net, 0, 1, 2);
        Behind.putEntry(net, 1, 1, 2);
        net.stamped(2, 0, 1).loseAll("STAMPED");
        Check.due("number 1 behind number 2", net.log(0) + ", " + net.log(1), "0.2 0.1, 0.2 0.1");
        Check.due("is no REPLY of the leader's", net.air(), "REPLY 1>0");
        Check.says("a request whose number is not above that of its client's latest executed one does nothing");
        Check.due("does nothing", net.table.word(0, 0), 60);
    }

    private static void numberThatIsHeld() {
        Check.says("and number k is not HELD and fewer than 8 are: it is HELD");
        Net net = new Net(3).ask(0, Net.PUT, 0, 1).ask(1, Net.PUT, 0, 2).ask(2, Net.PUT, 0, 3).ask(3, Net.PUT, 0, 4);
        net.stamped(3, 1);
        Behind.set(Behind.message(net, 10), "position", 3);
        net.stamped(4, 1);
        Check.due("number 3 twice", net.table.replica(1, 7), 1);
        net.stamped(1, 1).stamped(2, 1);
        Check.due("the first one stays", net.log(1), "0.1 1.1 2.1");
    }

    private static void foundInsteadOfWhatIsHeld() {
        Check.says("the request is HELD (instead of what is held there, beyond 8 too)");
        Net net = new Net(3).grow(99).ask(0, Net.PUT, 0, 1).again(0).stamped(100, 0).stamped(101, 1).deliver("LOOKUP", 1, 0);
        net.table.nudge(1);
        net.deliver("LOOKUP", 1, 0).table.nudge(1);
        net.deliver("LOOKUP", 1, 0).deliver("FOUND", 0, 1);
        Check.due("full, number 101 is HELD", net.state(1), "NORMAL 0/1 base 0 log 100 point 0 held 1 last 0/1 synced 0");
        Behind.set(Behind.message(net, net.numberOf("FOUND", 0, 1)), "position", 101);
        net.deliver("FOUND", 0, 1);
        Check.due("instead of what is held there", net.state(1), "NORMAL 0/1 base 0 log 100 point 0 held 1 last 0/1 synced 0");
        net.table.down(1);
        net.table.up(1);
        net.again(0);
        for (int k = 103; k <= 110; k++) {
            net.again(0).stamped(k, 1);
        }
        Behind.set(Behind.message(net, net.numberOf("FOUND", 0, 1)), "position", 101);
        net.deliver("FOUND", 0, 1);
        Check.due("beyond 8", net.state(1), "NORMAL 0/1 base 0 log 100 point 0 held 9 last 0/1 synced 0");
    }

    private static void gapCommitToAFullLog() {
        Check.says("with 100 entries nothing comes of it at all");
        Net net = new Net(3).grow(99).ask(0, Net.PUT, 0, 1).again(0).stamped(101, 0).stamped(100, 1).stamped(101, 1);
        net.loseAllBut(net.numberOf("GAP COMMIT", 0, 1));
        Behind.set(Behind.message(net, net.table.air().get(0)), "position", 101);
        net.deliver("GAP COMMIT", 0, 1);
        Check.due("slot 101 of 100", net.state(1), "NORMAL 0/1 base 0 log 100 point 0 held 1 last 0/1 synced 0");
        Check.due("no GAP REPLY", net.air(), "");
        Check.due("the 100th is a request still", net.table.entry(1, 100, 0), 1);
    }

    private static void gapCommitOfWhatIsHeld() {
        Check.says("a NOTHING comes there (what was held for it is not");
        Net net = new Net(3).ask(0, Net.PUT, 0, 1).again(0).again(0).stamped(2, 0).stamped(3, 1).loseAll("LOOKUP");
        ((int[]) Behind.get(Behind.get(Behind.replica(net, 1), "held"), "slots"))[0] = 1;
        net.deliver("GAP COMMIT", 0, 1);
        Check.due("the NOTHING is taken, not what was held", net.log(1), "-");
        Check.due("it is held no more", net.table.replica(1, 7), 0);
        net.loseAll("STAMPED");
        Check.due("nothing is MISSING", net.air(), "GAP COMMIT 0>2, GAP REPLY 1>0");
    }

    /** 0 has 0.1, 3 has 0.1 1.1, both will turn to 1/1. */
    private static Net twoLogs() {
        return new Net(5).ask(0, Net.PUT, 0, 1).ask(1, Net.PUT, 0, 2).stamped(1, 0, 3).stamped(2, 3).loseAll();
    }

    private static Net merge(Net net) {
        net.table.suspect(0);
        net.table.suspect(3);
        return net.deliver("TURNED", 0, 1).deliver("TURNED", 3, 1);
    }

    private static void greatestBySThenL() {
        Check.says("the greatest view of the last NORMAL (by S, then L)");
        Net bySession = twoLogs();
        Behind.setLastNormal(bySession, 0, 0, 2);
        Behind.setLastNormal(bySession, 3, 4, 1);
        Check.due("S 2 before L 4", merge(bySession).log(1), "0.1");
        Check.due("BASE is the length, as S is not its own", bySession.table.replica(1, 4), 1);
        Net byLead = twoLogs();
        Behind.setLastNormal(byLead, 0, 3, 1);
        Behind.setLastNormal(byLead, 3, 4, 1);
        Check.due("L 4 before L 3", merge(byLead).log(1), "0.1 1.1");
        Net lower = twoLogs();
        Behind.setLastNormal(lower, 0, 4, 1);
        Behind.setLastNormal(lower, 3, 3, 1);
        Check.due("L 4 before L 3, the other way", merge(lower).log(1), "0.1");
    }

    private static void requestOfItsOwnFirst() {
        Check.says("else the request that one of them has (its own first, then by their numbers)");
        Net net = new Net(5).ask(0, Net.PUT, 0, 1).ask(1, Net.PUT, 0, 2).stamped(1, 0, 1, 3).loseAll();
        Behind.putEntry(net, 0, 1, 2);
        Behind.putEntry(net, 3, 1, 2);
        Check.due("its own", merge(net).log(1), "0.1");
    }

    private static void requestByNumbers() {
        Check.says("(its own first, then by their numbers)");
        Net net = twoLogs();
        Behind.putEntry(net, 0, 1, 2);
        Check.due("that of 0 before that of 3", merge(net).log(1), "1.1 1.1");
        Net later = twoLogs();
        Behind.putEntry(later, 0, 1, 2);
        later.table.suspect(0);
        later.table.suspect(3);
        later.deliver("TURNED", 3, 1).deliver("TURNED", 0, 1);
        Check.due("whichever came first", later.log(1), "1.1 1.1");
    }

    /** -1, -2 and so on. */
    private static void setBases(Net net) {
        for (int r = 0; r < net.size; r++) {
            Behind.set(Behind.replica(net, r), "base", -1 - r);
        }
    }

    private static void baseOfItsOwnFirst() {
        Check.says("BASE is that of these (its own if it is one of them");
        Net net = twoLogs();
        setBases(net);
        Check.due("its own", merge(net).table.replica(1, 4), -2);
    }

    private static void baseOfTheLowestNumber() {
        Check.says("else that of the lowest number) if that view's S is that of its view");
        Net net = twoLogs();
        setBases(net);
        Behind.setLastNormal(net, 0, 1, 1);
        Behind.setLastNormal(net, 3, 1, 1);
        Check.due("that of 0", merge(net).table.replica(1, 4), -1);
        Net one = twoLogs();
        setBases(one);
        Behind.setLastNormal(one, 3, 1, 1);
        Check.due("that of 3, as 0 is not one of them", merge(one).table.replica(1, 4), -4);
    }

    private static void leadersLatestAnswer() {
        Check.says("with the leader's ANSWER (the latest that came), view and slot");
        Net net = new Net(3).ask(0, Net.PUT, 0, 1).again(0).stamped(1, 0, 1).stamped(2, 0);
        Behind.set(Behind.message(net, 6), "answer", 7);
        Behind.set(Behind.message(net, 8), "answer", 9);
        Behind.set(Behind.message(net, 8), "position", 1);
        net.table.deliver(6);
        net.table.deliver(8);
        Check.due("two of the leader are of one replica", net.table.client(0, 1), 1);
        net.table.deliver(7);
        Check.due("accepted", net.client(0), "2 slot 1 view 0/1 answer 9");
    }

    /** A message of each kind that is for NORMAL replicas, or such as are not in CHANGE, in the view 0/1. */
    private static Net ready() {
        Net net = new Net(3).ask(0, Net.PUT, 0, 1).ask(1, Net.PUT, 0, 2).stamped(1, 0, 2).loseAll("REPLY").stamped(2, 1);
        net.deliver("LOOKUP", 1, 0).table.nudge(1);
        net.table.sync(0);
        net.table.sync(0);
        net.deliver("SYNC", 0, 2).deliver("SYNC", 0, 2).deliver("SYNC REPLY", 2, 0).loseAll("STAMPED");
        Check.due("ready", net.air(), "FOUND 0>1, LOOKUP 1>0, SYNC 0>1, SYNC 0>1, SYNC REPLY 2>0, POINT 0>1, POINT 0>2");
        return net;
    }

    private static void nothingComes(Net net, String kind, int from, int to, int wrong) {
        Behind.set(Behind.message(net, net.numberOf(kind, from, to)), "to", wrong);
        String before = net.state(wrong);
        int sent = net.table.about(1);
        net.table.deliver(net.numberOf(kind, from, to));
        Check.due(kind + " " + from + ">" + to + " to " + wrong, net.state(wrong), before);
        Check.due(kind + " to " + wrong + " sends", net.table.about(1) - sent, 0);
    }

    private static void messagesInChange() {
        Check.says("if it leads and is not in CHANGE");
        Net net = ready();
        for (int r = 0; r <= 2; r++) {
            Behind.set(Behind.replica(net, r), "status", CHANGE);
        }
        Behind.set(Behind.replica(net, 0), "point", 0);
        nothingComes(net, "LOOKUP", 1, 0, 0);
        nothingComes(net, "FOUND", 0, 1, 1);
        nothingComes(net, "SYNC REPLY", 2, 0, 0);
        nothingComes(net, "POINT", 0, 2, 2);
        Behind.cutLog(net, 1, 1);
        nothingComes(net, "SYNC", 0, 1, 1);
        Net gap = new Net(3).ask(0, Net.PUT, 0, 1).again(0).stamped(2, 0);
        gap.table.nudge(0);
        Behind.set(Behind.replica(gap, 1), "status", CHANGE);
        nothingComes(gap, "GAP COMMIT", 0, 1, 1);
        gap.deliver("GAP COMMIT", 0, 2);
        Behind.set(Behind.replica(gap, 0), "status", CHANGE);
        nothingComes(gap, "GAP REPLY", 2, 0, 0);
    }

    private static void messagesToTheWrongOne() {
        Check.says("if it does not lead, is NORMAL and has m");
        Net net = ready();
        nothingComes(net, "LOOKUP", 1, 0, 2);
        nothingComes(net, "SYNC", 0, 1, 0);
        nothingComes(net, "SYNC REPLY", 2, 0, 1);
        Behind.set(Behind.replica(net, 0), "point", 0);
        Behind.set(Behind.replica(net, 0), "synced", 1);
        nothingComes(net, "POINT", 0, 1, 0);
        Net gap = new Net(3).ask(0, Net.PUT, 0, 1).again(0).stamped(2, 0);
        gap.deliver("GAP COMMIT", 0, 1).deliver("GAP REPLY", 1, 0);
        Check.due("the leader is NORMAL", gap.log(0) + " " + gap.table.replica(0, 1), "- 0.1 0");
        nothingComes(gap, "GAP COMMIT", 0, 2, 0);
        Check.due("its log stays", gap.log(0), "- 0.1");
        Net reply = new Net(3).ask(0, Net.PUT, 0, 1).again(0).stamped(2, 0).deliver("GAP COMMIT", 0, 1);
        Behind.set(Behind.replica(reply, 2), "status", 1);
        Behind.cutLog(reply, 2, 1);
        nothingComes(reply, "GAP REPLY", 1, 0, 2);
    }

    private static void gapReplyWhenNormal() {
        Check.says("GAP REPLY, if it leads, is in GAP, and the slot is its last one");
        Net net = new Net(3).ask(0, Net.PUT, 0, 1).again(0).stamped(2, 0).deliver("GAP COMMIT", 0, 1);
        Behind.set(Behind.replica(net, 0), "status", 0);
        nothingComes(net, "GAP REPLY", 1, 0, 0);
    }

    private static void latestTwoHundred() {
        Check.says("Of the latest 200 requests that were ACCEPTED");
        Net net = new Net(3).grow(8);
        Object accepted = Behind.get(net.table.under, "accepted");
        int[] answers = (int[]) Behind.get(accepted, "answers");
        for (int i = 8; i < 199; i++) {
            for (String row : new String[] {"requests", "views", "slots", "answers"}) {
                Object values = Behind.get(accepted, row);
                Array.set(values, i, Array.get(values, i % 8));
            }
        }
        Behind.set(accepted, "kept", 199);
        Behind.set(accepted, "next", 199);
        Behind.set(accepted, "total", 199);
        Check.due("199, all held to", net.table.broken(), 0);
        answers[0]++;
        Check.due("the oldest is not", net.table.broken(), 1);
        net.grow(1);
        Check.due("the oldest of 200", net.table.about(6) * 10 + net.table.broken(), 2001);
        net.grow(1);
        Check.due("the oldest of 201", net.table.about(6) * 10 + net.table.broken(), 2010);
        answers[0]++;
        Check.due("the latest of 201", net.table.broken(), 1);
    }
}
