import java.util.ArrayList;
import java.util.Arrays;
import java.util.List;

/** A table under test: its messages named by kind, sender and receiver, its states told in a line. */
final class Net {
    static final int GET = 0;
    static final int PUT = 1;
    static final int ADD = 2;
    /** As a sender: the sequencer. */
    static final int SEQUENCER = -1;
    private static final int NAMED = 10;
    private static final String[] STATUS = {"NORMAL", "GAP", "CHANGE"};

    final Table table;
    final int size;
    // Of each stamping by ask and again the number of its first message.
    private final List<Integer> stampings = new ArrayList<>();

    /** Of 3, 5 or 7 replicas. */
    Net(int size) {
        this.size = size;
        table = new Table((size - 3) / 2);
    }

    /** The messages in the air, the oldest first. */
    String air() {
        StringBuilder all = new StringBuilder();
        int lying = table.air().size();
        for (int k = 0; k < lying; k++) {
            all.append(k == 0 ? "" : ", ").append(table.name(k));
        }
        return all.toString();
    }

    /** The number of the oldest message of that kind, sender and receiver. */
    int numberOf(String kind, int from, int to) {
        String name = kind + " " + (from < 0 ? "*" : from) + ">" + to;
        List<Integer> numbers = table.air();
        for (int k = 0; k < numbers.size(); k++) {
            if (table.kind(k).equals(kind) && table.name(k).equals(name)) {
                return numbers.get(k);
            }
        }
        Check.due("the air has " + name, air(), "it");
        return -1;
    }

    /** Delivers the oldest of that kind, sender and receiver. */
    Net deliver(String kind, int from, int to) {
        int number = numberOf(kind, from, to);
        if (number >= 0) {
            table.deliver(number);
        }
        return this;
    }

    Net lose(String kind, int from, int to) {
        int number = numberOf(kind, from, to);
        if (number >= 0) {
            table.lose(number);
        }
        return this;
    }

    Net loseAll() {
        for (int number : table.air()) {
            table.lose(number);
        }
        return this;
    }

    /** Loses all but the messages of these numbers. */
    Net loseAllBut(int... kept) {
        for (int number : table.air()) {
            if (Arrays.stream(kept).noneMatch(k -> k == number)) {
                table.lose(number);
            }
        }
        return this;
    }

    Net loseAll(String kind) {
        List<Integer> numbers = table.air();
        for (int k = numbers.size() - 1; k >= 0; k--) {
            if (table.kind(k).equals(kind)) {
                table.lose(numbers.get(k));
            }
        }
        return this;
    }

    /** Client 0's open request is stamped again, for one replica alone. */
    Net deliverNext(int replica) {
        table.again(0);
        deliver("STAMPED", SEQUENCER, replica);
        return loseAll("STAMPED");
    }

    /** Delivers all, and what comes by it. */
    Net settle() {
        for (int i = 0; i < 100 && table.flow(40) == 40; i++) {
            continue;
        }
        return this;
    }

    /** A client's next request, delivered to nobody yet. */
    Net ask(int client, int kind, int key, int word) {
        stampings.add(table.about(1));
        table.request(client, kind, key, word);
        return this;
    }

    /** The open request of a client is stamped again, delivered to nobody yet. */
    Net again(int client) {
        stampings.add(table.about(1));
        table.again(client);
        return this;
    }

    /** Delivers what the k-th ask or again (1 on) has stamped to these replicas. */
    Net stamped(int k, int... replicas) {
        for (int r : replicas) {
            table.deliver(stampings.get(k - 1) + r);
        }
        return this;
    }

    /** All replicas take so many entries more, which are accepted requests; the air is to be empty. */
    Net grow(int entries) {
        for (int left = entries; left > 0; left -= 4) {
            int now = Math.min(4, left);
            int first = table.about(1);
            for (int c = 0; c < now; c++) {
                stampings.add(first + c * size);
                table.request(c, ADD, 7, 1);
            }
            for (int messages = 2 * size * now; messages > 0; messages -= 40) {
                table.flow(Math.min(40, messages));
            }
        }
        return this;
    }

    /** A replica that is in view 0/1 turns to that one, of session 1 or 2; what it sends is lost. */
    Net toView(int replica, int lead, int session) {
        if (session == 2) {
            if (table.about(4) == 1) {
                table.install();
                ask(3, GET, 0, 0);
            } else {
                again(3);
            }
            stamped(stampings.size(), replica);
        }
        for (int i = 0; i < lead; i++) {
            table.suspect(replica);
        }
        return loseAll();
    }

    /** The log as client.number for a request and - for a NOTHING. */
    String log(int replica) {
        StringBuilder all = new StringBuilder();
        int length = table.replica(replica, 5);
        for (int slot = 1; slot <= length; slot++) {
            all.append(slot == 1 ? "" : " ");
            if (table.entry(replica, slot, 0) == 0) {
                all.append('-');
            } else {
                all.append(table.entry(replica, slot, 1)).append('.').append(table.entry(replica, slot, 2));
            }
        }
        return all.toString();
    }

    /** "NORMAL 0/1 base 0 log 1 point 0 held 0 last 0/1 synced 0". */
    String state(int replica) {
        return STATUS[table.replica(replica, 1)]
            + " " + table.replica(replica, 2) + "/" + table.replica(replica, 3)
            + " base " + table.replica(replica, 4)
            + " log " + table.replica(replica, 5)
            + " point " + table.replica(replica, 6)
            + " held " + table.replica(replica, 7)
            + " last " + table.replica(replica, 8) + "/" + table.replica(replica, 9)
            + " synced " + table.replica(replica, 10);
    }

    /** "2 slot 1 view 0/1 answer 5": the state of a client's latest request. */
    String client(int client) {
        return table.client(client, 1) + " slot " + table.client(client, 2) + " view "
            + table.client(client, 3) + "/" + table.client(client, 4) + " answer " + table.answer(client);
    }

    /** All that can be asked; the names of the latest messages only, for the calls of an object are numbered. */
    String everything() {
        StringBuilder all = new StringBuilder();
        for (int r = 0; r < size; r++) {
            all.append(table.replica(r, 0)).append(' ').append(state(r)).append(" [").append(log(r)).append("] words");
            for (int key = 0; key < 8; key++) {
                all.append(' ').append(table.word(r, key));
            }
            all.append('\n');
        }
        for (int c = 0; c < 4; c++) {
            all.append(table.client(c, 0)).append(' ').append(client(c)).append('\n');
        }
        for (int what = 0; what < 7; what++) {
            all.append(table.about(what)).append(' ');
        }
        List<Integer> numbers = table.air();
        for (int k = 0; k < numbers.size(); k++) {
            all.append(numbers.get(k)).append(' ').append(k < numbers.size() - NAMED ? "" : table.name(k)).append(' ');
        }
        return all.append(table.broken()).toString();
    }
}
