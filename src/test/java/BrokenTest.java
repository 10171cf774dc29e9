/**
 * Promise 21. Replicas that keep to the document hold to what they ACCEPTED, so that broken() answers
 * 0 after any calls; to see it answer more, entries are changed here behind the object's back.
 */
final class BrokenTest {
    private static final int SEQ = Net.SEQUENCER;

    public static void main(String[] args) {
        if (!Behind.fits()) {
            return;
        }
        anotherEntry();
        anotherAnswer();
        notExecutedIsNoOtherAnswer();
        whoCounts();
        anOldLeaderDoesNotCount();
        Check.end();
    }

    /** Four ACCEPTED requests of four clients: answers 0, 5, 5, 8. */
    private static Net four() {
        Net net = new Net(3);
        net.ask(0, Net.ADD, 0, 5).settle().ask(1, Net.GET, 0, 0).settle();
        net.ask(2, Net.ADD, 0, 3).settle().ask(3, Net.GET, 0, 0).settle();
        Check.due("four are ACCEPTED", net.table.about(6) + " " + net.table.broken(), "4 0");
        return net;
    }

    private static void anotherEntry() {
        Check.says("and it has not that request in that slot");
        Net net = four();
        Behind.putEntry(net, 0, 4, 0);
        Check.due("a NOTHING instead", net.table.broken(), 1);
        Behind.putEntry(net, 0, 4, 2);
        Check.due("another request instead", net.table.broken(), 1);
        Behind.putEntry(net, 0, 4, 4);
        Check.due("as it was", net.table.broken(), 0);
        Behind.putEntry(net, 0, 1, 2);
        Behind.putEntry(net, 0, 2, 1);
        Check.due("two that have changed places", net.table.broken(), 2);
        Net shorter = four();
        Behind.cutLog(shorter, 0, 3);
        Check.due("one that is not there", shorter.table.broken(), 1);
    }

    private static void anotherAnswer() {
        Check.says("or has executed it, where it stands in its log first, with another ANSWER");
        Net net = four();
        Behind.putEntry(net, 0, 1, 0);
        Check.due("one is gone, three have other answers", net.table.broken(), 4);
        Net twice = new Net(3);
        twice.ask(0, Net.ADD, 0, 5);
        twice.table.again(0);
        twice.deliver("STAMPED", SEQ, 0).lose("REPLY", 0, 0).settle();
        Check.due("ACCEPTED where it comes a second time", twice.client(0) + " " + twice.table.broken(),
            "2 slot 2 view 0/1 answer 0 0");
        twice.ask(1, Net.ADD, 0, 7).settle();
        Behind.putEntry(twice, 0, 1, 2);
        Check.due("it is there, but with another answer; so has the other one", twice.table.broken(), 2);
    }

    private static void notExecutedIsNoOtherAnswer() {
        Net net = new Net(3);
        net.ask(0, Net.ADD, 0, 5).loseAll();
        net.table.again(0);
        net.settle();
        net.ask(0, Net.ADD, 0, 6).settle();
        net.ask(1, Net.PUT, 0, 9).settle();
        Check.due("before", net.log(0) + " " + net.table.broken(), "- 0.1 0.2 1.1 0");
        Behind.putEntry(net, 0, 1, 3);
        Check.due("all have other answers", net.table.broken(), 3);
        Behind.putEntry(net, 0, 1, 2);
        Check.due("the first is not executed now, the two others with other answers", net.table.broken(), 2);
    }

    private static void whoCounts() {
        Check.says("(Replicas that are DOWN count, too.)");
        Net net = four();
        Behind.putEntry(net, 1, 1, 0);
        Check.due("one that does not lead", net.table.broken(), 0);
        Behind.putEntry(net, 0, 4, 0);
        net.table.down(0);
        Check.due("a leader that is DOWN", net.table.broken(), 1);
        net.table.up(0);
        net.table.suspect(0);
        Check.due("one that leads no more", net.table.broken(), 0);
        for (int i = 0; i < 2; i++) {
            net.table.suspect(0);
        }
        Check.due("a leader in CHANGE", net.state(0) + " " + net.table.broken(),
            "CHANGE 3/1 base 0 log 4 point 0 held 0 last 0/1 synced 0 0");
        net.settle();
        Check.due("a leader of a later view, that merged", net.log(0) + " " + net.table.broken(), "- 1.1 2.1 - 4");
        Net gap = four();
        gap.ask(0, Net.GET, 0, 0).loseAll();
        gap.table.again(0);
        gap.deliver("STAMPED", SEQ, 0);
        Behind.putEntry(gap, 0, 4, 0);
        Check.due("a leader in GAP", gap.table.replica(0, 1) * 10 + gap.table.broken(), 11);
    }

    private static void anOldLeaderDoesNotCount() {
        Check.says("its view is that of the ACCEPTED one, or that is behind it");
        Net net = new Net(3);
        net.ask(0, Net.PUT, 0, 1).settle();
        net.table.suspect(2);
        net.deliver("TURNED", 2, 1).deliver("START", 1, 2).loseAll();
        net.ask(1, Net.PUT, 0, 2);
        net.deliver("STAMPED", SEQ, 1).deliver("STAMPED", SEQ, 2).deliver("REPLY", 1, 1).deliver("REPLY", 2, 1);
        Check.due("ACCEPTED in the second view", net.client(1), "2 slot 2 view 1/1 answer 1");
        Check.due("the old leader is in the first", net.state(0), "NORMAL 0/1 base 0 log 1 point 0 held 0 last 0/1 synced 0");
        Check.due("it need not have it", net.table.broken(), 0);
        Behind.putEntry(net, 0, 1, 0);
        Check.due("but the first one", net.table.broken(), 1);
        Behind.putEntry(net, 1, 1, 0);
        Check.due("each is counted once, the second by its answer", net.table.broken(), 2);
    }
}
