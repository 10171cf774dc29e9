import java.util.ArrayList;
import java.util.List;

/**
 * A table whose calls are counted: nothing is promised of an object after its 512th call, so a test that
 * makes more looks at nothing. Messages that were looked at once need not be asked for again.
 */
final class Table {
    static final int CALLS = 512;
    private static final String[] KINDS = {"STAMPED", "LOOKUP", "FOUND", "GAP COMMIT", "GAP REPLY", "SYNC",
        "SYNC REPLY", "POINT", "TURN", "TURNED", "START", "REPLY"};

    /** A message in the air; the rest of it is asked for when it is needed. */
    private static final class Lying {
        final int number;
        int kind = -1;
        String name;

        Lying(int number) {
            this.number = number;
        }
    }

    final OrderedTable under;
    private final List<Lying> seen = new ArrayList<>();
    private int calls;

    Table(int n) {
        under = new OrderedTable(n);
    }

    private OrderedTable called() {
        calls++;
        if (calls > CALLS) {
            throw new AssertionError("a test makes more than " + CALLS + " calls of one object");
        }
        return under;
    }

    /** The numbers of the messages in the air, the oldest first. */
    List<Integer> air() {
        int lying = about(0);
        for (int k = seen.size(); k < lying; k++) {
            seen.add(new Lying(message(k, 0)));
        }
        List<Integer> numbers = new ArrayList<>();
        for (Lying m : seen) {
            numbers.add(m.number);
        }
        return numbers;
    }

    /** The kind of the k-th oldest, which air() has told. */
    String kind(int k) {
        Lying m = seen.get(k);
        if (m.kind < 0) {
            m.kind = message(k, 1);
        }
        return KINDS[m.kind];
    }

    /** Its name, as "GAP COMMIT 0>2", with * for the sequencer. */
    String name(int k) {
        Lying m = seen.get(k);
        if (m.name == null) {
            int from = message(k, 2);
            m.name = kind(k) + " " + (from < 0 ? "*" : from) + ">" + message(k, 3);
        }
        return m.name;
    }

    private void gone(int message) {
        seen.removeIf(m -> m.number == message);
    }

    int request(int client, int kind, int key, int word) {
        return called().request(client, kind, key, word);
    }

    void again(int client) {
        called().again(client);
    }

    void deliver(int message) {
        called().deliver(message);
        gone(message);
    }

    void lose(int message) {
        called().lose(message);
        gone(message);
    }

    int flow(int n) {
        int delivered = called().flow(n);
        seen.subList(0, Math.min(Math.max(delivered, 0), seen.size())).clear();
        return delivered;
    }

    void down(int replica) {
        called().down(replica);
    }

    void up(int replica) {
        called().up(replica);
    }

    void suspect(int replica) {
        called().suspect(replica);
    }

    int nudge(int replica) {
        return called().nudge(replica);
    }

    void sync(int replica) {
        called().sync(replica);
    }

    boolean fail() {
        return called().fail();
    }

    int install() {
        return called().install();
    }

    int replica(int replica, int what) {
        return called().replica(replica, what);
    }

    int entry(int replica, int slot, int what) {
        return called().entry(replica, slot, what);
    }

    int word(int replica, int key) {
        return called().word(replica, key);
    }

    int client(int client, int what) {
        return called().client(client, what);
    }

    int answer(int client) {
        return called().answer(client);
    }

    int about(int what) {
        return called().about(what);
    }

    int message(int k, int what) {
        return called().message(k, what);
    }

    int broken() {
        return called().broken();
    }
}
