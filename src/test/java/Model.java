import java.util.ArrayList;
import java.util.HashMap;
import java.util.List;
import java.util.Map;
import java.util.TreeMap;

/** The document once more, sentence by sentence and with the library's collections, to compare runs with. */
final class Model {
    /** "L", "S", "R" requests; "granted", "refused", "yes", "no" replies; "recall". */
    record Msg(String kind, int c, int f, int x, int mode, boolean flag, int page, int value, List<Integer> pages) { }

    record Dirty(int f, int p, int v) { }

    static final class Known {
        int mode;
        int until;
        List<Integer> pages;
    }

    static final class ClientState {
        boolean up = true;
        int clock;
        int latest;
        Map<Integer, Known> leases = new HashMap<>();
        Map<Integer, Boolean> recalled = new HashMap<>();
        Map<Integer, Boolean> lost = new HashMap<>();
        List<Dirty> dirty = new ArrayList<>();
        Msg open;
        int sentAt;

        Known valid(int f) {
            Known known = leases.get(f);
            return known != null && clock < known.until ? known : null;
        }

        boolean dirtyOn(int f) {
            return dirty.stream().anyMatch(d -> d.f == f);
        }

        boolean marked(Map<Integer, Boolean> marks, int f) {
            return marks.getOrDefault(f, false);
        }
    }

    record Lease(int mode, int end) { }

    final int length;
    final int term;
    final List<Msg> messages = new ArrayList<>();
    final ClientState[] clients = {new ClientState(), new ClientState(), new ClientState()};
    final int[][] pages = new int[4][4];
    final int[] doneNumber = new int[3];
    final Msg[] doneReply = new Msg[3];
    final List<Map<Integer, Lease>> leases = new ArrayList<>();
    final List<List<Msg>> lines = new ArrayList<>();
    boolean serverUp = true;
    int serverClock;
    int restartedAt = -1;

    Model(int length) {
        this.length = length < 8 ? 8 : length > 200 ? 200 : length;
        this.term = this.length / 2 - 2;
        forgetServer();
    }

    private void forgetServer() {
        leases.clear();
        lines.clear();
        for (int f = 0; f < 4; f++) {
            leases.add(new TreeMap<>());
            lines.add(new ArrayList<>());
        }
    }

    private static boolean among(int count, int... numbers) {
        for (int number : numbers) {
            if (number < 0 || number >= count) {
                return false;
            }
        }
        return true;
    }

    /** There is such a client, and it is up. */
    private boolean clientUp(int c) {
        return among(3, c) && clients[c].up;
    }

    private boolean nodeUp(int node) {
        return node == 3 ? serverUp : clientUp(node);
    }

    private boolean grace() {
        return restartedAt >= 0 && serverClock - restartedAt < length;
    }

    private void send(Msg m) {
        if (messages.size() < 60) {
            messages.add(m);
        }
    }

    private int newRequest(ClientState s, Msg m) {
        s.latest++;
        s.open = m;
        s.sentAt = s.clock;
        send(m);
        return s.latest;
    }

    int acquire(int c, int f, int mode) {
        if (!clientUp(c) || !among(4, f) || mode != 1 && mode != 2 || clients[c].open != null) {
            return -1;
        }
        ClientState s = clients[c];
        if (s.marked(s.lost, f)) {
            s.lost.remove(f);
            return -3;
        }
        Known k = s.valid(f);
        int asked = mode;
        if (k != null && k.mode == 2) {
            asked = 2;
        }
        if (s.dirtyOn(f)) {
            asked = 2;
        }
        boolean claim = k != null && k.mode >= asked;
        return newRequest(s, new Msg("L", c, f, s.latest + 1, asked, claim, 0, 0, null));
    }

    int read(int c, int f, int p, int how) {
        if (!clientUp(c) || !among(4, f, p) || how != 0 && how != 1) {
            return -1;
        }
        ClientState s = clients[c];
        if (s.marked(s.lost, f)) {
            if (how == 0) {
                s.lost.remove(f);
            }
            return -3;
        }
        if (s.valid(f) == null) {
            return -2;
        }
        return how == 1 ? 1 : s.valid(f).pages.get(p);
    }

    int write(int c, int f, int p, int v) {
        if (!clientUp(c) || !among(4, f, p)) {
            return -1;
        }
        ClientState s = clients[c];
        if (s.marked(s.lost, f)) {
            s.lost.remove(f);
            return -3;
        }
        if (s.valid(f) == null || s.valid(f).mode != 2) {
            return -2;
        }
        if (s.dirty.size() == 6) {
            return -4;
        }
        s.valid(f).pages.set(p, v);
        s.dirty.add(new Dirty(f, p, v));
        return s.dirty.size();
    }

    int flush(int c) {
        if (!clientUp(c) || clients[c].open != null || clients[c].dirty.isEmpty()) {
            return -1;
        }
        ClientState s = clients[c];
        Dirty d = s.dirty.get(0);
        if (s.valid(d.f) == null || s.valid(d.f).mode != 2) {
            return -2;
        }
        return newRequest(s, new Msg("S", c, d.f, s.latest + 1, 0, false, d.p, d.v, null));
    }

    int close(int c, int f) {
        if (!clientUp(c) || !among(4, f) || clients[c].open != null || clients[c].dirtyOn(f)) {
            return -1;
        }
        ClientState s = clients[c];
        if (s.marked(s.lost, f)) {
            s.lost.remove(f);
            return -3;
        }
        if (!s.leases.containsKey(f)) {
            return -2;
        }
        s.leases.remove(f);
        s.recalled.remove(f);
        return newRequest(s, new Msg("R", c, f, s.latest + 1, 0, false, 0, 0, null));
    }

    int retry(int c) {
        if (!clientUp(c) || clients[c].open == null) {
            return -1;
        }
        send(clients[c].open);
        return clients[c].open.x;
    }

    int messages() {
        return messages.size();
    }

    int message(int i) {
        if (!among(messages.size(), i)) {
            return -1;
        }
        Msg m = messages.get(i);
        int lead = List.of("-", "L", "S", "R", "granted", "refused", "yes", "no", "recall").indexOf(m.kind);
        return lead * 1000000 + m.c * 100000 + m.f * 10000 + m.x;
    }

    boolean deliver(int i) {
        if (!among(messages.size(), i)) {
            return false;
        }
        Msg m = messages.remove(i);
        switch (m.kind) {
            case "L", "S", "R" -> request(m);
            case "recall" -> {
                if (clients[m.c].up) {
                    clients[m.c].recalled.put(m.f, true);
                }
            }
            default -> reply(m);
        }
        return true;
    }

    boolean drop(int i) {
        if (!among(messages.size(), i)) {
            return false;
        }
        messages.remove(i);
        return true;
    }

    boolean duplicate(int i) {
        if (!among(messages.size(), i) || messages.size() == 60) {
            return false;
        }
        messages.add(messages.get(i));
        return true;
    }

    boolean tick(int node, int n) {
        if (!nodeUp(node) || n < 1 || n > 100) {
            return false;
        }
        for (int i = 0; i < n; i++) {
            if (node < 3) {
                clients[node].clock++;
            } else {
                serverClock++;
                leases.forEach(ofFile -> ofFile.values().removeIf(lease -> lease.end <= serverClock));
                walkLines();
            }
        }
        return true;
    }

    boolean crash(int node) {
        if (!nodeUp(node)) {
            return false;
        }
        if (node == 3) {
            serverUp = false;
            forgetServer();
        } else {
            ClientState fresh = new ClientState();
            fresh.up = false;
            fresh.clock = clients[node].clock;
            fresh.latest = clients[node].latest;
            clients[node] = fresh;
        }
        return true;
    }

    boolean restart(int node) {
        if (!among(4, node) || nodeUp(node)) {
            return false;
        }
        if (node == 3) {
            serverUp = true;
            restartedAt = serverClock;
        } else {
            clients[node].up = true;
        }
        return true;
    }

    int clock(int node) {
        if (!among(4, node)) {
            return -1;
        }
        return node == 3 ? serverClock : clients[node].clock;
    }

    int lease(int c, int f) {
        if (!clientUp(c) || !among(4, f)) {
            return -1;
        }
        ClientState s = clients[c];
        int answer = s.valid(f) == null ? 0 : s.valid(f).mode;
        answer += s.marked(s.recalled, f) ? 10 : 0;
        answer += s.marked(s.lost, f) ? 100 : 0;
        return answer;
    }

    int dirty(int c) {
        return clientUp(c) ? clients[c].dirty.size() : -1;
    }

    int held(int c, int f) {
        if (!among(3, c) || !among(4, f)) {
            return -1;
        }
        Lease lease = leases.get(f).get(c);
        return lease == null ? 0 : 1000 * lease.mode + lease.end - serverClock;
    }

    int waiting(int f) {
        return among(4, f) ? lines.get(f).size() : -1;
    }

    int stored(int f, int p) {
        return among(4, f, p) ? pages[f][p] : 0;
    }

    private void request(Msg m) {
        if (!serverUp) {
            return;
        }
        boolean waits = lines.stream().anyMatch(line -> line.stream().anyMatch(w -> w.c == m.c && w.x == m.x));
        if (m.x == doneNumber[m.c]) {
            send(doneReply[m.c]);
        } else if (m.x > doneNumber[m.c] && !waits) {
            lines.forEach(line -> line.removeIf(w -> w.c == m.c));
            if (m.kind.equals("L")) {
                leaseRequest(m);
            } else if (m.kind.equals("S")) {
                Lease lease = leases.get(m.f).get(m.c);
                if (lease != null && lease.mode == 2) {
                    pages[m.f][m.page] = m.value;
                    done(m, new Msg("yes", m.c, m.f, m.x, 0, true, 0, 0, null));
                } else {
                    done(m, new Msg("no", m.c, m.f, m.x, 0, true, 0, 0, null));
                }
            } else {
                leases.get(m.f).remove(m.c);
                done(m, new Msg("yes", m.c, m.f, m.x, 0, false, 0, 0, null));
            }
        }
        walkLines();
    }

    private void leaseRequest(Msg m) {
        boolean has = leases.get(m.f).containsKey(m.c);
        boolean anotherWaits = lines.get(m.f).stream().anyMatch(w -> w.c != m.c);
        if (has && anotherWaits) {
            done(m, new Msg("refused", m.c, m.f, m.x, 0, false, 0, 0, null));
            return;
        }
        List<Integer> conflicting = conflicting(m);
        boolean first = grace() && m.flag;
        boolean second = !grace() && (has || lines.get(m.f).isEmpty());
        if (conflicting.isEmpty() && (first || second)) {
            grant(m);
            return;
        }
        lines.get(m.f).add(m);
        for (int c : conflicting) {
            send(new Msg("recall", c, m.f, 0, 0, false, 0, 0, null));
        }
    }

    private List<Integer> conflicting(Msg m) {
        List<Integer> found = new ArrayList<>();
        leases.get(m.f).forEach((c, lease) -> {
            if (c != m.c && (lease.mode == 2 || m.mode == 2)) {
                found.add(c);
            }
        });
        return found;
    }

    private void grant(Msg m) {
        boolean continued = leases.get(m.f).containsKey(m.c) || m.flag && grace();
        leases.get(m.f).put(m.c, new Lease(m.mode, serverClock + length));
        List<Integer> asTheyAre = new ArrayList<>();
        for (int value : pages[m.f]) {
            asTheyAre.add(value);
        }
        done(m, new Msg("granted", m.c, m.f, m.x, m.mode, continued, 0, 0, asTheyAre));
    }

    private void done(Msg request, Msg reply) {
        doneNumber[request.c] = request.x;
        doneReply[request.c] = reply;
        send(reply);
    }

    private void walkLines() {
        if (grace()) {
            return;
        }
        for (List<Msg> line : lines) {
            while (!line.isEmpty() && conflicting(line.get(0)).isEmpty()) {
                grant(line.remove(0));
            }
        }
    }

    private void reply(Msg m) {
        ClientState s = clients[m.c];
        if (!s.up || s.open == null || s.open.x != m.x) {
            return;
        }
        String asked = s.open.kind;
        s.open = null;
        if (m.kind.equals("granted")) {
            granted(s, m);
        } else if (asked.equals("S") && m.kind.equals("yes")) {
            s.dirty.remove(s.dirty.stream().filter(d -> d.f == m.f).findFirst().orElseThrow());
        } else if (m.kind.equals("no")) {
            s.dirty.removeIf(d -> d.f == m.f);
            s.lost.put(m.f, true);
            s.leases.remove(m.f);
        }
    }

    private void granted(ClientState s, Msg m) {
        Known known = new Known();
        known.mode = m.mode;
        known.until = s.sentAt + term;
        known.pages = new ArrayList<>(m.pages);
        s.leases.put(m.f, known);
        if (!m.flag && s.dirty.removeIf(d -> d.f == m.f)) {
            s.lost.put(m.f, true);
        }
        for (Dirty d : s.dirty) {
            if (d.f == m.f) {
                known.pages.set(d.p, d.v);
            }
        }
        s.recalled.remove(m.f);
    }
}
