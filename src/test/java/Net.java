/** A table under test: its messages named by kind, sender and receiver, its states told in a line. */
final class Net {
    static final int GET = 0;
    static final int PUT = 1;
    static final int ADD = 2;
    /** As a sender: the sequencer. */
    static final int SEQUENCER = -1;
    private static final String[] KINDS = {"STAMPED", "LOOKUP", "FOUND", "GAP COMMIT", "GAP REPLY", "SYNC",
        "SYNC REPLY", "POINT", "TURN", "TURNED", "START", "REPLY"};
    private static final String[] STATUS = {"NORMAL", "GAP", "CHANGE"};

    final OrderedTable table;
    final int size;

    /** Of 3, 5 or 7 replicas. */
    Net(int size) {
        this.size = size;
        table = new OrderedTable((size - 3) / 2);
    }

    private String named(int k) {
        return KINDS[table.message(k, 1)] + " " + (table.message(k, 2) < 0 ? "*" : table.message(k, 2))
            + ">" + table.message(k, 3);
    }

    /** The messages in the air, the oldest first. */
    String air() {
        StringBuilder all = new StringBuilder();
        for (int k = 0; k < table.about(0); k++) {
            all.append(k == 0 ? "" : ", ").append(named(k));
        }
        return all.toString();
    }

    private int numberOf(String kind, int from, int to) {
        String name = kind + " " + (from < 0 ? "*" : from) + ">" + to;
        for (int k = 0; k < table.about(0); k++) {
            if (named(k).equals(name)) {
                return table.message(k, 0);
            }
        }
        Check.due("the air has " + name, air(), "it");
        return -1;
    }

    /** Delivers the oldest of that kind, sender and receiver. */
    Net deliver(String kind, int from, int to) {
        int number = numberOf(kind, from, to);
        if (number >= 0) {
            table.deliver(number);
        }
        return this;
    }

    Net lose(String kind, int from, int to) {
        int number = numberOf(kind, from, to);
        if (number >= 0) {
            table.lose(number);
        }
        return this;
    }

    Net loseAll() {
        while (table.about(0) > 0) {
            table.lose(table.message(0, 0));
        }
        return this;
    }

    Net loseAll(String kind) {
        for (int k = table.about(0) - 1; k >= 0; k--) {
            if (KINDS[table.message(k, 1)].equals(kind)) {
                table.lose(table.message(k, 0));
            }
        }
        return this;
    }

    /** Client 0's open request is stamped again, for one replica alone. */
    Net deliverNext(int replica) {
        table.again(0);
        deliver("STAMPED", SEQUENCER, replica);
        return loseAll("STAMPED");
    }

    /** Delivers all, and what comes by it. */
    Net settle() {
        for (int i = 0; i < 1000 && table.about(0) > 0; i++) {
            table.flow(40);
        }
        return this;
    }

    /** A client's next request, delivered to nobody yet. */
    Net ask(int client, int kind, int key, int word) {
        table.request(client, kind, key, word);
        return this;
    }

    /** The log as client.number for a request and - for a NOTHING. */
    String log(int replica) {
        StringBuilder all = new StringBuilder();
        for (int slot = 1; slot <= table.replica(replica, 5); slot++) {
            all.append(slot == 1 ? "" : " ");
            if (table.entry(replica, slot, 0) == 0) {
                all.append('-');
            } else {
                all.append(table.entry(replica, slot, 1)).append('.').append(table.entry(replica, slot, 2));
            }
        }
        return all.toString();
    }

    /** "NORMAL 0/1 base 0 log 1 point 0 held 0 last 0/1 synced 0". */
    String state(int replica) {
        return STATUS[table.replica(replica, 1)]
            + " " + table.replica(replica, 2) + "/" + table.replica(replica, 3)
            + " base " + table.replica(replica, 4)
            + " log " + table.replica(replica, 5)
            + " point " + table.replica(replica, 6)
            + " held " + table.replica(replica, 7)
            + " last " + table.replica(replica, 8) + "/" + table.replica(replica, 9)
            + " synced " + table.replica(replica, 10);
    }

    /** "2 slot 1 view 0/1 answer 5": the state of a client's latest request. */
    String client(int client) {
        return table.client(client, 1) + " slot " + table.client(client, 2) + " view "
            + table.client(client, 3) + "/" + table.client(client, 4) + " answer " + table.answer(client);
    }
}
