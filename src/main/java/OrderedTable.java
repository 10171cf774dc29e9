import java.util.Arrays;

/**
 * A table of words that replicas keep alike, because the network puts the requests in order. The
 * numbered promises that this class keeps stand in ../shared/DOC.md; words in capitals are its terms.
 */
public final class OrderedTable {
    public static final int NONE = -1;

    private static final int CLIENTS = 4;
    private static final int KEYS = 8;
    private static final int REQUESTS_MAX = 512;
    private static final int LOG_MAX = 100;
    private static final int HELD_MAX = 8;
    private static final int AIR_MAX = 200;
    private static final int PLACES_MAX = 64;
    private static final int ACCEPTED_MAX = 200;
    private static final int FLOW_MAX = 40;

    private static final int GET = 0;
    private static final int PUT = 1;
    private static final int ADD = 2;

    private static final int NORMAL = 0;
    private static final int GAP = 1;
    private static final int CHANGE = 2;

    private static final int NEVER_ASKED = 0;
    private static final int OPEN = 1;
    private static final int ACCEPTED = 2;

    private static final int STAMPED = 0;
    private static final int LOOKUP = 1;
    private static final int FOUND = 2;
    private static final int GAP_COMMIT = 3;
    private static final int GAP_REPLY = 4;
    private static final int SYNC = 5;
    private static final int SYNC_REPLY = 6;
    private static final int POINT = 7;
    private static final int TURN = 8;
    private static final int TURNED = 9;
    private static final int START = 10;
    private static final int REPLY = 11;

    // Logs hold the ids of requests; ids start above this one, which stands for a NOTHING.
    private static final int NOTHING = 0;

    private final int size;
    private final Requests requests;
    private final Words words;
    private final Air air;
    private final Replica[] replicas;
    private final Client[] clients;
    private final AcceptedOnes accepted;

    private boolean sequencerIsUp;
    private int session;
    private int count;

    public OrderedTable(int n) {
        size = 3 + 2 * Math.floorMod(n, 3);
        requests = new Requests();
        words = new Words(requests);
        air = new Air();
        accepted = new AcceptedOnes();
        replicas = new Replica[size];
        for (int r = 0; r < size; r++) {
            replicas[r] = new Replica(r, size, requests, words, air);
        }
        clients = new Client[CLIENTS];
        for (int c = 0; c < CLIENTS; c++) {
            clients[c] = new Client(size);
        }
        sequencerIsUp = true;
        session = 1;
    }

    public int request(int client, int kind, int key, int word)
            throws IndexOutOfBoundsException, IllegalArgumentException, IllegalStateException {
        if (!isClient(client) || !isKey(key)) {
            throw new IndexOutOfBoundsException("no such client or key");
        }
        if (kind != GET && kind != PUT && kind != ADD) {
            throw new IllegalArgumentException("no such kind");
        }
        Client asker = clients[client];
        if (asker.state == OPEN) {
            throw new IllegalStateException("its latest request is open");
        }
        int id = requests.add(client, asker.asked + 1, kind, key, word);
        if (id == NOTHING) {
            // Only a call after the 512th comes here, and what those answer is free.
            return NONE;
        }
        asker.ask(id);
        stamp(id);
        return asker.asked;
    }

    public void again(int client) throws IndexOutOfBoundsException, IllegalStateException {
        if (!isClient(client)) {
            throw new IndexOutOfBoundsException("no such client");
        }
        if (clients[client].state != OPEN) {
            throw new IllegalStateException("none of its requests is open");
        }
        stamp(clients[client].latest);
    }

    public void deliver(int message) throws IllegalArgumentException {
        int place = air.placeOf(message);
        if (place == NONE) {
            throw new IllegalArgumentException("the message is not in the air");
        }
        handOver(air.takeOut(place));
    }

    public void lose(int message) throws IllegalArgumentException {
        int place = air.placeOf(message);
        if (place == NONE) {
            throw new IllegalArgumentException("the message is not in the air");
        }
        air.takeOut(place);
        air.lost++;
    }

    public int flow(int n) throws IllegalArgumentException {
        if (n < 0 || n > FLOW_MAX) {
            throw new IllegalArgumentException("n is not 0 .. 40");
        }
        int delivered = 0;
        while (delivered < n && air.lying > 0) {
            handOver(air.takeOut(0));
            delivered++;
        }
        return delivered;
    }

    public void down(int replica) throws IndexOutOfBoundsException, IllegalStateException {
        if (!isReplica(replica)) {
            throw new IndexOutOfBoundsException("no such replica");
        }
        if (replicas[replica].isDown || downNow() >= size / 2) {
            throw new IllegalStateException("it is down, or as many as may be are");
        }
        replicas[replica].isDown = true;
        replicas[replica].forget();
    }

    public void up(int replica) throws IndexOutOfBoundsException, IllegalStateException {
        if (!isReplica(replica)) {
            throw new IndexOutOfBoundsException("no such replica");
        }
        if (!replicas[replica].isDown) {
            throw new IllegalStateException("it is not down");
        }
        replicas[replica].isDown = false;
    }

    public void suspect(int replica) throws IndexOutOfBoundsException, IllegalStateException {
        if (!isReplica(replica)) {
            throw new IndexOutOfBoundsException("no such replica");
        }
        Replica doubter = replicas[replica];
        if (doubter.isDown) {
            throw new IllegalStateException("it is down");
        }
        doubter.turnTo(new View(doubter.view.lead + 1, doubter.view.session));
    }

    public int nudge(int replica) throws IndexOutOfBoundsException, IllegalStateException {
        if (!isReplica(replica)) {
            throw new IndexOutOfBoundsException("no such replica");
        }
        if (replicas[replica].isDown) {
            throw new IllegalStateException("it is down");
        }
        int before = air.sent;
        replicas[replica].askAgain();
        return air.sent - before;
    }

    public void sync(int replica) throws IndexOutOfBoundsException, IllegalStateException {
        if (!isReplica(replica)) {
            throw new IndexOutOfBoundsException("no such replica");
        }
        Replica leader = replicas[replica];
        if (leader.isDown || !leader.leads() || leader.status != NORMAL) {
            throw new IllegalStateException("it is down, does not lead, or is not normal");
        }
        leader.sendLogToOthers(SYNC);
    }

    public boolean fail() {
        boolean wasUp = sequencerIsUp;
        sequencerIsUp = false;
        return wasUp;
    }

    public int install() {
        sequencerIsUp = true;
        session++;
        count = 0;
        return session;
    }

    public int replica(int replica, int what) {
        if (!isReplica(replica)) {
            return NONE;
        }
        Replica r = replicas[replica];
        switch (what) {
            case 0: return r.isDown ? 1 : 0;
            case 1: return r.status;
            case 2: return r.view.lead;
            case 3: return r.view.session;
            case 4: return r.base;
            case 5: return r.log.length;
            case 6: return r.point;
            case 7: return r.held.size;
            case 8: return r.lastNormal.lead;
            case 9: return r.lastNormal.session;
            case 10: return r.synced;
            default: return NONE;
        }
    }

    public int entry(int replica, int slot, int what) {
        boolean exists = isReplica(replica) && replicas[replica].log.has(slot);
        int id = exists ? replicas[replica].log.at(slot) : NOTHING;
        if (what == 0 && exists) {
            return id == NOTHING ? 0 : 1;
        }
        if (what == 5) {
            return id == NOTHING ? 0 : requests.word[id];
        }
        if (id == NOTHING) {
            return NONE;
        }
        switch (what) {
            case 1: return requests.client[id];
            case 2: return requests.number[id];
            case 3: return requests.kind[id];
            case 4: return requests.key[id];
            default: return NONE;
        }
    }

    public int word(int replica, int key) {
        if (!isReplica(replica) || !isKey(key)) {
            return 0;
        }
        words.execute(replicas[replica].log, replicas[replica].executed());
        return words.words[key];
    }

    public int client(int client, int what) {
        if (!isClient(client)) {
            return NONE;
        }
        Client c = clients[client];
        if (what == 0) {
            return c.asked;
        }
        if (what == 1) {
            return c.state;
        }
        if (c.state != ACCEPTED) {
            return NONE;
        }
        switch (what) {
            case 2: return c.acceptedSlot;
            case 3: return c.acceptedView.lead;
            case 4: return c.acceptedView.session;
            default: return NONE;
        }
    }

    public int answer(int client) {
        return isClient(client) ? clients[client].answer : 0;
    }

    public int about(int what) {
        switch (what) {
            case 0: return air.lying;
            case 1: return air.sent;
            case 2: return air.lost;
            case 3: return sequencerIsUp ? 1 : 0;
            case 4: return session;
            case 5: return count;
            case 6: return accepted.total;
            default: return NONE;
        }
    }

    public int message(int k, int what) {
        if (k < 0 || k >= air.lying) {
            return NONE;
        }
        Message m = air.messages[k];
        switch (what) {
            case 0: return m.number;
            case 1: return m.kind;
            case 2: return m.from;
            case 3: return m.to;
            default: return NONE;
        }
    }

    public int broken() {
        accepted.unmark();
        for (Replica r : replicas) {
            if (r.leads() && r.status != CHANGE) {
                words.execute(r.log, r.log.length);
                accepted.markNotHeldTo(r, words);
            }
        }
        return accepted.marked();
    }

    private boolean isClient(int client) {
        return client >= 0 && client < CLIENTS;
    }

    private boolean isKey(int key) {
        return key >= 0 && key < KEYS;
    }

    private boolean isReplica(int replica) {
        return replica >= 0 && replica < size;
    }

    private int downNow() {
        int downs = 0;
        for (Replica r : replicas) {
            if (r.isDown) {
                downs++;
            }
        }
        return downs;
    }

    private void stamp(int id) {
        if (!sequencerIsUp) {
            return;
        }
        count++;
        for (int to = 0; to < size; to++) {
            Message m = air.send(STAMPED, NONE, to);
            m.session = session;
            m.position = count;
            m.request = id;
        }
    }

    private void handOver(Message m) {
        if (m.kind == REPLY) {
            Client asker = clients[m.to];
            if (asker.hear(m)) {
                accepted.add(asker.latest, asker.acceptedView, asker.acceptedSlot, asker.answer);
            }
            return;
        }
        Replica to = replicas[m.to];
        if (to.isDown) {
            air.lost++;
        } else if (m.kind == STAMPED) {
            to.receiveStamped(m);
        } else if (m.kind == TURN || m.kind == TURNED || m.kind == START) {
            to.receiveOfAnyView(m);
        } else if (m.view.isSame(to.view)) {
            to.receiveOfItsView(m);
        }
    }

    /** Who leads, and which of the sequencer's sessions counts. */
    private static final class View {
        final int lead;
        final int session;

        View(int lead, int session) {
            this.lead = lead;
            this.session = session;
        }

        boolean isSame(View other) {
            return lead == other.lead && session == other.session;
        }

        boolean isBehind(View other) {
            return lead <= other.lead && session <= other.session && !isSame(other);
        }

        boolean isLater(View other) {
            return session > other.session || session == other.session && lead > other.lead;
        }

        View joinedWith(View other) {
            return new View(Math.max(lead, other.lead), Math.max(session, other.session));
        }

        int leader(int size) {
            return Math.floorMod(lead, size);
        }
    }

    /** What the clients asked for, by ids: so logs and messages are rows of numbers. */
    private static final class Requests {
        final int[] client = new int[REQUESTS_MAX + 1];
        final int[] number = new int[REQUESTS_MAX + 1];
        final int[] kind = new int[REQUESTS_MAX + 1];
        final int[] key = new int[REQUESTS_MAX + 1];
        final int[] word = new int[REQUESTS_MAX + 1];
        int latest = NOTHING;

        /** The new id; NOTHING if there is no room. */
        int add(int ofClient, int itsNumber, int itsKind, int itsKey, int itsWord) {
            if (latest >= REQUESTS_MAX) {
                return NOTHING;
            }
            latest++;
            client[latest] = ofClient;
            number[latest] = itsNumber;
            kind[latest] = itsKind;
            key[latest] = itsKey;
            word[latest] = itsWord;
            return latest;
        }
    }

    /** Entries in slots from 1 on. */
    private static final class Log {
        private final int[] entries = new int[LOG_MAX];
        int length;

        boolean has(int slot) {
            return slot >= 1 && slot <= length;
        }

        boolean isFull() {
            return length >= LOG_MAX;
        }

        int at(int slot) {
            return slot >= 1 && slot <= length ? entries[slot - 1] : NOTHING;
        }

        void put(int slot, int entry) {
            if (slot < 1 || slot > LOG_MAX || slot > length + 1) {
                return;
            }
            entries[slot - 1] = entry;
            length = Math.max(length, slot);
        }

        void copy(Log other) {
            System.arraycopy(other.entries, 0, entries, 0, other.length);
            length = other.length;
        }

        void copyFirst(Log other, int m) {
            System.arraycopy(other.entries, 0, entries, 0, Math.min(m, other.length));
        }
    }

    /** Requests that a replica got too early, by their slots. */
    private static final class Held {
        // FOUND may add one beyond HELD_MAX; it is taken at once.
        private final int[] slots = new int[HELD_MAX + 1];
        private final int[] requests = new int[HELD_MAX + 1];
        int size;

        boolean has(int slot) {
            return indexOf(slot) != NONE;
        }

        void put(int slot, int request) {
            remove(slot);
            if (size <= HELD_MAX) {
                slots[size] = slot;
                requests[size] = request;
                size++;
            }
        }

        /** What was held there; NOTHING if nothing was. */
        int remove(int slot) {
            int i = indexOf(slot);
            if (i == NONE) {
                return NOTHING;
            }
            int request = requests[i];
            size--;
            slots[i] = slots[size];
            requests[i] = requests[size];
            return request;
        }

        private int indexOf(int slot) {
            for (int i = 0; i < size; i++) {
                if (slots[i] == slot) {
                    return i;
                }
            }
            return NONE;
        }
    }

    /** One message; which fields mean something depends on its kind. */
    private static final class Message {
        int number;
        int kind;
        int from;
        int to;
        View view;
        int session;
        // A slot; of STAMPED the number in the session, of SYNC, SYNC REPLY and POINT the m.
        int position;
        int request;
        int answer;
        View lastNormal;
        int base;
        final Log log = new Log();
    }

    /**
     * The messages on their way, the oldest first. They are made once and used again: behind the
     * lying ones of the row are the free ones.
     */
    private static final class Air {
        final Message[] messages = new Message[AIR_MAX];
        int lying;
        int sent;
        int lost;
        // The one taken out last is still being read while its effects are sent, so it is not free.
        private Message takenOut = new Message();
        // Senders fill this one where there is no room: it is lost at once.
        private final Message noRoom = new Message();

        Air() {
            for (int i = 0; i < AIR_MAX; i++) {
                messages[i] = new Message();
            }
        }

        /** The message for the sender to fill. */
        Message send(int kind, int from, int to) {
            Message m = noRoom;
            if (lying < AIR_MAX) {
                m = messages[lying];
                lying++;
            } else {
                lost++;
            }
            m.number = sent;
            sent++;
            m.kind = kind;
            m.from = from;
            m.to = to;
            return m;
        }

        int placeOf(int number) {
            for (int i = 0; i < lying; i++) {
                if (messages[i].number == number) {
                    return i;
                }
            }
            return NONE;
        }

        /** Takes out the message of a place that is below lying; it may be read until the next call. */
        Message takeOut(int place) {
            Message m = messages[place];
            lying--;
            for (int i = place; i < lying; i++) {
                messages[i] = messages[i + 1];
            }
            messages[lying] = takenOut;
            takenOut = m;
            return m;
        }
    }

    /** What a replica counts: a replica's bit is set when its message has come. */
    private static final class Tally {
        int gapReplies;
        int syncReplies;
        int syncRepliesFor;
        int turned;
        final View[] lastNormals;
        final int[] bases;
        final Log[] logs;

        Tally(int size) {
            lastNormals = new View[size];
            bases = new int[size];
            logs = new Log[size];
            for (int r = 0; r < size; r++) {
                logs[r] = new Log();
            }
        }

        void clear() {
            gapReplies = 0;
            syncReplies = 0;
            turned = 0;
        }

        void addSyncReply(int from, int m) {
            if (m != syncRepliesFor) {
                syncRepliesFor = m;
                syncReplies = 0;
            }
            syncReplies |= 1 << from;
        }

        void addTurned(Message m) {
            turned |= 1 << m.from;
            lastNormals[m.from] = m.lastNormal;
            bases[m.from] = m.base;
            logs[m.from].copy(m.log);
        }

        boolean hasTurned(int replica) {
            return (turned & 1 << replica) != 0;
        }
    }

    /** The table as a log makes it. One for all replicas: it is made anew for each question. */
    private static final class Words {
        final int[] words = new int[KEYS];
        private final Requests requests;
        private final int[] latest = new int[CLIENTS];
        private final int[] executed = new int[REQUESTS_MAX + 1];
        private final int[] answers = new int[REQUESTS_MAX + 1];

        Words(Requests requests) {
            this.requests = requests;
        }

        void execute(Log log, int upTo) {
            Arrays.fill(words, 0);
            Arrays.fill(latest, NOTHING);
            Arrays.fill(executed, 0);
            for (int slot = 1; slot <= upTo; slot++) {
                int id = log.at(slot);
                if (id != NOTHING && isNew(id)) {
                    executeRequest(id);
                }
            }
        }

        boolean hasExecuted(int id) {
            return executed[id] != 0;
        }

        boolean isLatest(int id) {
            return latest[requests.client[id]] == id;
        }

        int answerTo(int id) {
            return answers[id];
        }

        private boolean isNew(int id) {
            return requests.number[id] > requests.number[latest[requests.client[id]]];
        }

        private void executeRequest(int id) {
            int key = requests.key[id];
            latest[requests.client[id]] = id;
            executed[id] = 1;
            answers[id] = words[key];
            if (requests.kind[id] == PUT) {
                words[key] = requests.word[id];
            } else if (requests.kind[id] == ADD) {
                words[key] += requests.word[id];
            }
        }
    }

    private static final class Replica {
        final Log log = new Log();
        final Held held = new Held();
        boolean isDown;
        int status = NORMAL;
        View view = new View(0, 1);
        View lastNormal = view;
        int base;
        int point;
        int synced;
        private final int me;
        private final int size;
        private final Requests requests;
        private final Words words;
        private final Air air;
        private final Tally tally;

        Replica(int me, int size, Requests requests, Words words, Air air) {
            this.me = me;
            this.size = size;
            this.requests = requests;
            this.words = words;
            this.air = air;
            tally = new Tally(size);
        }

        boolean leads() {
            // Not by the view's leader(): from here calls go as deep as LANGUAGE.md lets them.
            return Math.floorMod(view.lead, size) == me;
        }

        /** Up to which slot its entries are executed. */
        int executed() {
            return leads() && status != CHANGE ? log.length : Math.min(point, log.length);
        }

        void forget() {
            held.size = 0;
            tally.clear();
        }

        void turnTo(View next) {
            view = next;
            status = CHANGE;
            forget();
            synced = 0;
            sendTurns();
        }

        void askAgain() {
            if (status == GAP) {
                sendToOthers(GAP_COMMIT, log.length);
            } else if (status == CHANGE) {
                sendTurns();
            } else if (!leads() && held.size > 0) {
                send(LOOKUP, view.leader(size), log.length + 1);
            }
        }

        void receiveStamped(Message m) {
            if (m.session > view.session) {
                turnTo(new View(view.lead, m.session));
                return;
            }
            int slot = base + m.position;
            if (m.session < view.session || status == CHANGE || slot <= log.length
                    || held.has(slot) || held.size >= HELD_MAX) {
                return;
            }
            held.put(slot, m.request);
            if (status == NORMAL) {
                takeHeld();
            }
        }

        void receiveOfAnyView(Message m) {
            if (m.kind == START) {
                receiveStart(m);
                return;
            }
            if (!m.view.isSame(view) && !m.view.isBehind(view)) {
                turnTo(view.joinedWith(m.view));
            }
            if (m.kind == TURNED && m.view.isSame(view) && leads()) {
                receiveTurned(m);
            }
        }

        void receiveOfItsView(Message m) {
            switch (m.kind) {
                case LOOKUP: receiveLookup(m.from, m.position); break;
                case FOUND: receiveFound(m.position, m.request); break;
                case GAP_COMMIT: receiveGapCommit(m.position); break;
                case GAP_REPLY: receiveGapReply(m.from, m.position); break;
                case SYNC: receiveSync(m); break;
                case SYNC_REPLY: receiveSyncReply(m.from, m.position); break;
                case POINT: receivePoint(m.position); break;
                default: break;
            }
        }

        private void receiveLookup(int from, int slot) {
            if (!leads() || status == CHANGE || !log.has(slot)) {
                return;
            }
            if (log.at(slot) == NOTHING) {
                send(GAP_COMMIT, from, slot);
            } else {
                send(FOUND, from, slot).request = log.at(slot);
            }
        }

        private void receiveFound(int slot, int request) {
            if (status == NORMAL && slot == log.length + 1) {
                held.put(slot, request);
                takeHeld();
            }
        }

        private void receiveGapCommit(int slot) {
            boolean isNext = slot == log.length + 1 && !log.isFull();
            if (leads() || status != NORMAL || !isNext && !log.has(slot)) {
                return;
            }
            if (isNext) {
                held.remove(slot);
            }
            log.put(slot, NOTHING);
            send(GAP_REPLY, view.leader(size), slot);
            if (isNext) {
                takeHeld();
            }
        }

        private void receiveGapReply(int from, int slot) {
            if (!leads() || status != GAP || slot != log.length) {
                return;
            }
            tally.gapReplies |= 1 << from;
            if (isEnough(tally.gapReplies)) {
                status = NORMAL;
                takeHeld();
            }
        }

        private void receiveSync(Message m) {
            if (leads() || status != NORMAL || m.position > log.length) {
                return;
            }
            log.copyFirst(m.log, m.position);
            synced = Math.max(synced, m.position);
            send(SYNC_REPLY, view.leader(size), m.position);
        }

        private void receiveSyncReply(int from, int m) {
            if (!leads() || status == CHANGE || m <= point) {
                return;
            }
            tally.addSyncReply(from, m);
            if (isEnough(tally.syncReplies)) {
                point = m;
                sendToOthers(POINT, m);
            }
        }

        private void receivePoint(int m) {
            if (!leads() && status != CHANGE && m > point && synced >= m) {
                point = m;
            }
        }

        private void receiveTurned(Message m) {
            if (status != CHANGE) {
                sendLog(START, m.from);
                return;
            }
            tally.addTurned(m);
            if (isEnough(tally.turned)) {
                mergeLogs();
                becomeNormal();
                sendLogToOthers(START);
            }
        }

        private void receiveStart(Message m) {
            if (view.isBehind(m.view) || m.view.isSame(view) && status == CHANGE) {
                view = m.view;
                base = m.base;
                log.copy(m.log);
                becomeNormal();
            }
        }

        private void becomeNormal() {
            status = NORMAL;
            lastNormal = view;
            forget();
            synced = 0;
        }

        private void takeHeld() {
            for (int slot = log.length + 1; slot <= LOG_MAX && held.has(slot); slot++) {
                int request = held.remove(slot);
                log.put(slot, request);
                reply(slot, request);
            }
            if (held.size == 0 || log.isFull()) {
                return;
            }
            if (leads()) {
                log.put(log.length + 1, NOTHING);
                status = GAP;
                tally.gapReplies = 0;
                sendToOthers(GAP_COMMIT, log.length);
            } else {
                send(LOOKUP, view.leader(size), log.length + 1);
            }
        }

        private void reply(int slot, int request) {
            int answer = 0;
            if (leads()) {
                words.execute(log, log.length);
                if (!words.isLatest(request)) {
                    return;
                }
                answer = words.answerTo(request);
            }
            Message m = send(REPLY, requests.client[request], slot);
            m.request = request;
            m.answer = answer;
        }

        private void mergeLogs() {
            View latest = lastNormal;
            for (int r = 0; r < size; r++) {
                if (tally.hasTurned(r) && tally.lastNormals[r].isLater(latest)) {
                    latest = tally.lastNormals[r];
                }
            }
            boolean mineToo = lastNormal.isSame(latest);
            if (!mineToo) {
                log.length = 0;
            }
            int first = NONE;
            int longest = log.length;
            for (int r = size - 1; r >= 0; r--) {
                if (isMerged(r, latest)) {
                    first = r;
                    longest = Math.max(longest, tally.logs[r].length);
                }
            }
            for (int slot = 1; slot <= longest; slot++) {
                log.put(slot, mergedEntry(slot, latest));
            }
            if (latest.session != view.session) {
                base = longest;
            } else if (!mineToo && first != NONE) {
                base = tally.bases[first];
            }
        }

        private boolean isMerged(int replica, View latest) {
            return tally.hasTurned(replica) && tally.lastNormals[replica].isSame(latest);
        }

        private int mergedEntry(int slot, View latest) {
            boolean found = log.has(slot);
            int entry = log.at(slot);
            for (int r = 0; r < size; r++) {
                if (!isMerged(r, latest) || !tally.logs[r].has(slot)) {
                    continue;
                }
                int other = tally.logs[r].at(slot);
                if (!found || other == NOTHING) {
                    entry = other;
                }
                found = true;
            }
            return entry;
        }

        /** Whether F others have their bits there. */
        private boolean isEnough(int others) {
            return Integer.bitCount(others) >= size / 2;
        }

        private void sendTurns() {
            sendToOthers(TURN, 0);
            if (!leads()) {
                sendLog(TURNED, view.leader(size));
            }
        }

        private void sendToOthers(int kind, int position) {
            for (int to = 0; to < size; to++) {
                if (to != me) {
                    send(kind, to, position);
                }
            }
        }

        void sendLogToOthers(int kind) {
            for (int to = 0; to < size; to++) {
                if (to != me) {
                    sendLog(kind, to);
                }
            }
        }

        private void sendLog(int kind, int to) {
            Message m = send(kind, to, log.length);
            m.lastNormal = lastNormal;
            m.base = base;
            m.log.copy(log);
        }

        private Message send(int kind, int to, int position) {
            Message m = air.send(kind, me, to);
            m.view = view;
            m.position = position;
            return m;
        }
    }

    /** A client, and from whom its open request has REPLYs, by places: a view and a slot. */
    private static final class Client {
        int asked;
        int latest = NOTHING;
        int state = NEVER_ASKED;
        View acceptedView;
        int acceptedSlot;
        int answer;
        private final int size;
        private final View[] views = new View[PLACES_MAX];
        private final int[] slots = new int[PLACES_MAX];
        private final int[] senders = new int[PLACES_MAX];
        private final int[] answers = new int[PLACES_MAX];
        private int places;
        // Where the next place goes: in a full row there is the one that came first.
        private int next;

        Client(int size) {
            this.size = size;
        }

        void ask(int id) {
            asked++;
            latest = id;
            state = OPEN;
            places = 0;
            next = 0;
        }

        /** Whether the open request is accepted by this REPLY. */
        boolean hear(Message m) {
            if (state != OPEN || m.request != latest) {
                return false;
            }
            int place = placeOf(m.view, m.position);
            int leader = m.view.leader(size);
            senders[place] |= 1 << m.from;
            if (m.from == leader) {
                answers[place] = m.answer;
            }
            if (Integer.bitCount(senders[place]) <= size / 2 || (senders[place] & 1 << leader) == 0) {
                return false;
            }
            state = ACCEPTED;
            acceptedView = m.view;
            acceptedSlot = m.position;
            answer = answers[place];
            return true;
        }

        private int placeOf(View view, int slot) {
            for (int i = 0; i < places; i++) {
                if (slots[i] == slot && views[i].isSame(view)) {
                    return i;
                }
            }
            int place = next;
            next = (next + 1) % PLACES_MAX;
            places = Math.min(places + 1, PLACES_MAX);
            views[place] = view;
            slots[place] = slot;
            senders[place] = 0;
            answers[place] = 0;
            return place;
        }
    }

    /** The latest requests that were accepted. */
    private static final class AcceptedOnes {
        int total;
        private final int[] requests = new int[ACCEPTED_MAX];
        private final View[] views = new View[ACCEPTED_MAX];
        private final int[] slots = new int[ACCEPTED_MAX];
        private final int[] answers = new int[ACCEPTED_MAX];
        private final int[] marks = new int[ACCEPTED_MAX];
        private int kept;
        private int next;

        void add(int request, View view, int slot, int answer) {
            requests[next] = request;
            views[next] = view;
            slots[next] = slot;
            answers[next] = answer;
            next = (next + 1) % ACCEPTED_MAX;
            kept = Math.min(kept + 1, ACCEPTED_MAX);
            total++;
        }

        void unmark() {
            Arrays.fill(marks, 0);
        }

        /** Words are those of the replica's log. */
        void markNotHeldTo(Replica r, Words words) {
            for (int i = 0; i < kept; i++) {
                if (!views[i].isSame(r.view) && !views[i].isBehind(r.view)) {
                    continue;
                }
                boolean otherAnswer = words.hasExecuted(requests[i])
                        && words.answerTo(requests[i]) != answers[i];
                if (r.log.at(slots[i]) != requests[i] || otherAnswer) {
                    marks[i] = 1;
                }
            }
        }

        int marked() {
            int sum = 0;
            for (int mark : marks) {
                sum += mark;
            }
            return sum;
        }
    }
}
