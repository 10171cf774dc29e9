import java.util.ArrayList;
import java.util.HashMap;
import java.util.HashSet;
import java.util.List;
import java.util.Map;
import java.util.Set;
import java.util.TreeMap;

/**
 * The document written down a second time, slowly and with other means than the class (collections,
 * messages that never change, HELD by numbers, everything executed anew), to compare the two.
 */
final class Model {
    static final int NONE = -1;
    static final String[] KINDS = {"STAMPED", "LOOKUP", "FOUND", "GAP COMMIT", "GAP REPLY", "SYNC",
        "SYNC REPLY", "POINT", "TURN", "TURNED", "START", "REPLY"};

    enum Status { NORMAL, GAP, CHANGE }

    record View(int l, int s) {
        boolean behind(View o) {
            return (l < o.l || s < o.s) && !(l > o.l || s > o.s);
        }

        View joined(View o) {
            return new View(l > o.l ? l : o.l, s > o.s ? s : o.s);
        }
    }

    /** In a log a NOTHING is NIL. */
    record Request(int client, int number, int kind, int key, int word) { }

    static final Request NIL = new Request(-1, -1, -1, -1, 0);

    /** What a message tells; the log is a copy. */
    record Told(View view, View last, int s, int k, int base, Request request, int answer, List<Request> log) { }

    record Msg(int number, String kind, int from, int to, Told told) { }

    record Place(View view, int slot) { }

    record Kept(Request request, View view, int slot, int answer) { }

    static final class Executed {
        final int[] words = new int[8];
        final Map<Integer, Request> latest = new HashMap<>();
        final Map<Integer, Integer> answers = new HashMap<>();
        boolean lastTookEffect;
    }

    final class Replica {
        final int id;
        boolean down;
        Status status = Status.NORMAL;
        View view = new View(0, 1);
        View last = view;
        List<Request> log = new ArrayList<>();
        int base;
        int point;
        int synced;
        final TreeMap<Integer, Request> held = new TreeMap<>();
        final Set<Integer> gapReplies = new HashSet<>();
        final Set<Integer> syncReplies = new HashSet<>();
        int syncRepliesFor = -1;
        final TreeMap<Integer, Told> turned = new TreeMap<>();

        Replica(int id) {
            this.id = id;
        }

        int leader() {
            return Math.floorMod(view.l, n);
        }

        boolean leads() {
            return leader() == id;
        }

        void holdsAndCountsNothing() {
            held.clear();
            gapReplies.clear();
            syncReplies.clear();
            syncRepliesFor = -1;
            turned.clear();
        }

        List<Request> executedEntries() {
            if (leads() && status != Status.CHANGE) {
                return log;
            }
            return log.subList(0, Math.min(point, log.size()));
        }

        void toOthers(String kind, Told told) {
            for (int r = 0; r < n; r++) {
                if (r != id) {
                    post(kind, id, r, told);
                }
            }
        }

        Told tell(int k) {
            return new Told(view, null, 0, k, 0, null, 0, null);
        }

        Told tellLog(int k) {
            return new Told(view, last, 0, k, base, null, 0, List.copyOf(log));
        }

        void takes() {
            while (log.size() < 100 && held.containsKey(log.size() + 1 - base)) {
                Request next = held.remove(log.size() + 1 - base);
                log.add(next);
                Executed all = execute(log);
                Request latest = all.latest.get(next.client);
                if (!leads()) {
                    post("REPLY", id, next.client, new Told(view, null, 0, log.size(), 0, next, 0, null));
                } else if (latest.number == next.number) {
                    post("REPLY", id, next.client,
                        new Told(view, null, 0, log.size(), 0, next, all.answers.get(next.client), null));
                }
            }
            if (!held.isEmpty() && log.size() < 100) {
                if (leads()) {
                    log.add(NIL);
                    status = Status.GAP;
                    gapReplies.clear();
                    toOthers("GAP COMMIT", tell(log.size()));
                } else {
                    post("LOOKUP", id, leader(), tell(log.size() + 1));
                }
            }
        }

        int asks() {
            int before = sent;
            toOthers("TURN", tell(0));
            if (!leads()) {
                post("TURNED", id, leader(), tellLog(0));
            }
            return sent - before;
        }

        void turns(View w) {
            view = w;
            status = Status.CHANGE;
            holdsAndCountsNothing();
            synced = 0;
            asks();
        }

        void normalAgain() {
            status = Status.NORMAL;
            last = view;
            holdsAndCountsNothing();
            synced = 0;
        }

        void merges() {
            TreeMap<Integer, Told> all = new TreeMap<>(turned);
            all.put(id, tellLog(0));
            View best = null;
            for (Told t : all.values()) {
                if (best == null || t.last.s > best.s || t.last.s == best.s && t.last.l > best.l) {
                    best = t.last;
                }
            }
            List<Told> theirs = new ArrayList<>();
            if (all.get(id).last.equals(best)) {
                theirs.add(all.get(id));
            }
            for (int r : all.keySet()) {
                if (r != id && all.get(r).last.equals(best)) {
                    theirs.add(all.get(r));
                }
            }
            int longest = 0;
            for (Told t : theirs) {
                longest = Math.max(longest, t.log.size());
            }
            List<Request> merged = new ArrayList<>();
            for (int i = 0; i < longest; i++) {
                Request chosen = null;
                for (Told t : theirs) {
                    if (i < t.log.size() && chosen == null) {
                        chosen = t.log.get(i);
                    }
                    if (i < t.log.size() && t.log.get(i).equals(NIL)) {
                        chosen = NIL;
                    }
                }
                merged.add(chosen);
            }
            log = merged;
            base = best.s == view.s ? theirs.get(0).base : merged.size();
            normalAgain();
            toOthers("START", tellLog(0));
        }

        void delivered(Msg m) {
            Told t = m.told;
            switch (m.kind) {
                case "STAMPED": stamped(t); return;
                case "TURN": comesToView(t.view); return;
                case "TURNED": turnedCame(m.from, t); return;
                case "START": startCame(t); return;
                default: break;
            }
            if (!t.view.equals(view)) {
                return;
            }
            switch (m.kind) {
                case "LOOKUP": lookup(m.from, t.k); break;
                case "FOUND":
                    if (status == Status.NORMAL && t.k == log.size() + 1) {
                        held.put(t.k - base, t.request);
                        takes();
                    }
                    break;
                case "GAP COMMIT": gapCommit(t.k); break;
                case "GAP REPLY":
                    if (leads() && status == Status.GAP && t.k == log.size()) {
                        gapReplies.add(m.from);
                        if (gapReplies.size() == f) {
                            status = Status.NORMAL;
                            takes();
                        }
                    }
                    break;
                case "SYNC":
                    if (!leads() && status == Status.NORMAL && log.size() >= t.k) {
                        for (int i = 0; i < t.k; i++) {
                            log.set(i, t.log.get(i));
                        }
                        synced = Math.max(synced, t.k);
                        post("SYNC REPLY", id, leader(), tell(t.k));
                    }
                    break;
                case "SYNC REPLY": syncReply(m.from, t.k); break;
                case "POINT":
                    if (!leads() && status != Status.CHANGE && t.k > point && synced >= t.k) {
                        point = t.k;
                    }
                    break;
                default: throw new AssertionError(m.kind);
            }
        }

        void stamped(Told t) {
            if (t.s > view.s) {
                turns(new View(view.l, t.s));
            } else if (t.s == view.s && status != Status.CHANGE && base + t.k > log.size()
                && !held.containsKey(t.k) && held.size() < 8) {
                held.put(t.k, t.request);
                if (status == Status.NORMAL) {
                    takes();
                }
            }
        }

        void lookup(int from, int slot) {
            if (leads() && status != Status.CHANGE && slot >= 1 && slot <= log.size()) {
                if (log.get(slot - 1).equals(NIL)) {
                    post("GAP COMMIT", id, from, tell(slot));
                } else {
                    post("FOUND", id, from, new Told(view, null, 0, slot, 0, log.get(slot - 1), 0, null));
                }
            }
        }

        void gapCommit(int slot) {
            if (leads() || status != Status.NORMAL) {
                return;
            }
            if (slot <= log.size()) {
                log.set(slot - 1, NIL);
                post("GAP REPLY", id, leader(), tell(slot));
            } else if (slot == log.size() + 1 && log.size() < 100) {
                held.remove(slot - base);
                log.add(NIL);
                post("GAP REPLY", id, leader(), tell(slot));
                takes();
            }
        }

        void syncReply(int from, int m) {
            if (leads() && status != Status.CHANGE && m > point) {
                if (syncRepliesFor != m) {
                    syncReplies.clear();
                }
                syncRepliesFor = m;
                syncReplies.add(from);
                if (syncReplies.size() == f) {
                    point = m;
                    toOthers("POINT", tell(m));
                }
            }
        }

        void comesToView(View w) {
            if (!w.equals(view) && !w.behind(view)) {
                turns(view.joined(w));
            }
        }

        void turnedCame(int from, Told t) {
            comesToView(t.view);
            if (t.view.equals(view) && leads()) {
                if (status == Status.CHANGE) {
                    turned.put(from, t);
                    if (turned.size() == f) {
                        merges();
                    }
                } else {
                    post("START", id, from, tellLog(0));
                }
            }
        }

        void startCame(Told t) {
            if (view.behind(t.view) || view.equals(t.view) && status == Status.CHANGE) {
                view = t.view;
                base = t.base;
                log = new ArrayList<>(t.log);
                normalAgain();
            }
        }
    }

    final class Client {
        final List<Request> asked = new ArrayList<>();
        boolean open;
        Kept accepted;
        int answer;
        final List<Place> places = new ArrayList<>();
        final Map<Place, Map<Integer, Integer>> told = new HashMap<>();

        Request latest() {
            return asked.get(asked.size() - 1);
        }

        void reply(int from, Told t) {
            if (!open || t.request.number != latest().number) {
                return;
            }
            Place place = new Place(t.view, t.k);
            if (!places.contains(place)) {
                if (places.size() == 64) {
                    told.remove(places.remove(0));
                }
                places.add(place);
                told.put(place, new HashMap<>());
            }
            Map<Integer, Integer> here = told.get(place);
            here.put(from, t.answer);
            Integer byLeader = here.get(Math.floorMod(t.view.l, n));
            if (here.size() >= f + 1 && byLeader != null) {
                open = false;
                answer = byLeader;
                accepted = new Kept(latest(), t.view, t.k, answer);
                allAccepted.add(accepted);
            }
        }
    }

    final int n;
    final int f;
    final List<Replica> replicas = new ArrayList<>();
    final List<Client> clients = new ArrayList<>();
    final List<Msg> air = new ArrayList<>();
    final List<Kept> allAccepted = new ArrayList<>();
    int sent;
    int lost;
    boolean sequencerUp = true;
    int session = 1;
    int count;

    Model(int n) {
        int rest = n % 3 < 0 ? n % 3 + 3 : n % 3;
        this.n = rest == 0 ? 3 : rest == 1 ? 5 : 7;
        f = this.n / 2;
        for (int r = 0; r < this.n; r++) {
            replicas.add(new Replica(r));
        }
        for (int c = 0; c < 4; c++) {
            clients.add(new Client());
        }
    }

    private void post(String kind, int from, int to, Told told) {
        if (air.size() < 200) {
            air.add(new Msg(sent, kind, from, to, told));
        } else {
            lost++;
        }
        sent++;
    }

    private Executed execute(List<Request> entries) {
        Executed done = new Executed();
        for (Request r : entries) {
            done.lastTookEffect = false;
            if (r.equals(NIL)) {
                continue;
            }
            Request latest = done.latest.get(r.client);
            if (latest != null && r.number <= latest.number) {
                continue;
            }
            done.lastTookEffect = true;
            done.latest.put(r.client, r);
            done.answers.put(r.client, done.words[r.key]);
            if (r.kind == 1) {
                done.words[r.key] = r.word;
            }
            if (r.kind == 2) {
                done.words[r.key] = done.words[r.key] + r.word;
            }
        }
        return done;
    }

    private void stamp(Request r) {
        if (sequencerUp) {
            count++;
            for (int to = 0; to < n; to++) {
                post("STAMPED", NONE, to, new Told(null, null, session, count, 0, r, 0, null));
            }
        }
    }

    private Replica at(int replica) {
        if (replica < 0 || replica >= n) {
            throw new IndexOutOfBoundsException();
        }
        return replicas.get(replica);
    }

    private Msg out(int message) {
        for (Msg m : air) {
            if (m.number == message) {
                air.remove(m);
                return m;
            }
        }
        throw new IllegalArgumentException();
    }

    private void arrive(Msg m) {
        if (m.kind.equals("REPLY")) {
            clients.get(m.to).reply(m.from, m.told);
        } else if (replicas.get(m.to).down) {
            lost++;
        } else {
            replicas.get(m.to).delivered(m);
        }
    }

    int request(int client, int kind, int key, int word) {
        if (client < 0 || client > 3 || key < 0 || key > 7) {
            throw new IndexOutOfBoundsException();
        }
        if (kind < 0 || kind > 2) {
            throw new IllegalArgumentException();
        }
        Client c = clients.get(client);
        if (c.open) {
            throw new IllegalStateException();
        }
        c.asked.add(new Request(client, c.asked.size() + 1, kind, key, word));
        c.open = true;
        c.accepted = null;
        c.places.clear();
        c.told.clear();
        stamp(c.latest());
        return c.asked.size();
    }

    void again(int client) {
        if (client < 0 || client > 3) {
            throw new IndexOutOfBoundsException();
        }
        if (!clients.get(client).open) {
            throw new IllegalStateException();
        }
        stamp(clients.get(client).latest());
    }

    void deliver(int message) {
        arrive(out(message));
    }

    void lose(int message) {
        out(message);
        lost++;
    }

    int flow(int times) {
        if (times < 0 || times > 40) {
            throw new IllegalArgumentException();
        }
        int done = 0;
        while (done < times && !air.isEmpty()) {
            arrive(air.remove(0));
            done++;
        }
        return done;
    }

    void down(int replica) {
        Replica r = at(replica);
        if (r.down || replicas.stream().filter(x -> x.down).count() == f) {
            throw new IllegalStateException();
        }
        r.down = true;
        r.holdsAndCountsNothing();
    }

    void up(int replica) {
        if (!at(replica).down) {
            throw new IllegalStateException();
        }
        at(replica).down = false;
    }

    private Replica atUp(int replica) {
        if (at(replica).down) {
            throw new IllegalStateException();
        }
        return at(replica);
    }

    void suspect(int replica) {
        Replica r = atUp(replica);
        r.turns(new View(r.view.l + 1, r.view.s));
    }

    int nudge(int replica) {
        Replica r = atUp(replica);
        int before = sent;
        if (r.status == Status.GAP) {
            r.toOthers("GAP COMMIT", r.tell(r.log.size()));
        }
        if (r.status == Status.CHANGE) {
            r.asks();
        }
        if (r.status == Status.NORMAL && !r.leads() && r.held.size() > 0) {
            post("LOOKUP", r.id, r.leader(), r.tell(r.log.size() + 1));
        }
        return sent - before;
    }

    void sync(int replica) {
        Replica r = atUp(replica);
        if (!r.leads() || r.status != Status.NORMAL) {
            throw new IllegalStateException();
        }
        r.toOthers("SYNC", r.tellLog(r.log.size()));
    }

    boolean fail() {
        boolean was = sequencerUp;
        sequencerUp = false;
        return was;
    }

    int install() {
        sequencerUp = true;
        session++;
        count = 0;
        return session;
    }

    int replica(int replica, int what) {
        if (replica < 0 || replica >= n || what < 0 || what > 10) {
            return NONE;
        }
        Replica r = replicas.get(replica);
        return new int[] {r.down ? 1 : 0, r.status.ordinal(), r.view.l, r.view.s, r.base, r.log.size(),
            r.point, r.held.size(), r.last.l, r.last.s, r.synced}[what];
    }

    int entry(int replica, int slot, int what) {
        boolean there = replica >= 0 && replica < n && slot >= 1 && slot <= replicas.get(replica).log.size();
        if (what < 0 || what > 5) {
            return NONE;
        }
        if (!there) {
            return what == 5 ? 0 : NONE;
        }
        Request r = replicas.get(replica).log.get(slot - 1);
        return new int[] {r.equals(NIL) ? 0 : 1, r.client, r.number, r.kind, r.key, r.word}[what];
    }

    int word(int replica, int key) {
        if (replica < 0 || replica >= n || key < 0 || key > 7) {
            return 0;
        }
        return execute(replicas.get(replica).executedEntries()).words[key];
    }

    int client(int client, int what) {
        if (client < 0 || client > 3 || what < 0 || what > 4) {
            return NONE;
        }
        Client c = clients.get(client);
        if (what == 0) {
            return c.asked.size();
        }
        if (what == 1) {
            return c.asked.isEmpty() ? 0 : c.open ? 1 : 2;
        }
        if (c.accepted == null) {
            return NONE;
        }
        return what == 2 ? c.accepted.slot : what == 3 ? c.accepted.view.l : c.accepted.view.s;
    }

    int answer(int client) {
        return client < 0 || client > 3 ? 0 : clients.get(client).answer;
    }

    int about(int what) {
        switch (what) {
            case 0: return air.size();
            case 1: return sent;
            case 2: return lost;
            case 3: return sequencerUp ? 1 : 0;
            case 4: return session;
            case 5: return count;
            case 6: return allAccepted.size();
            default: return NONE;
        }
    }

    int message(int k, int what) {
        if (k < 0 || k >= air.size() || what < 0 || what > 3) {
            return NONE;
        }
        Msg m = air.get(k);
        return new int[] {m.number, List.of(KINDS).indexOf(m.kind), m.from, m.to}[what];
    }

    int broken() {
        int from = Math.max(0, allAccepted.size() - 200);
        int broken = 0;
        for (Kept k : allAccepted.subList(from, allAccepted.size())) {
            if (replicas.stream().anyMatch(r -> breaks(r, k))) {
                broken++;
            }
        }
        return broken;
    }

    private boolean breaks(Replica r, Kept k) {
        if (!r.leads() || r.status == Status.CHANGE || !k.view.equals(r.view) && !k.view.behind(r.view)) {
            return false;
        }
        if (k.slot > r.log.size() || !r.log.get(k.slot - 1).equals(k.request)) {
            return true;
        }
        int first = r.log.indexOf(k.request);
        Executed there = execute(r.log.subList(0, first + 1));
        return there.lastTookEffect && there.answers.get(k.request.client) != k.answer;
    }
}
