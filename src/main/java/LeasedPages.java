import java.util.Arrays;

/** A server of files and three clients that keep pages of them under leases and write them back later. */
public final class LeasedPages {
    public static final int NONE = -1;
    public static final int NO_LEASE = -2;
    public static final int LOST = -3;
    public static final int FULL = -4;

    private static final int CLIENTS = 3;
    private static final int SERVER = 3;
    private static final int FILES = 4;
    private static final int PAGES = 4;
    private static final int MOST_DIRTY = 6;
    private static final int MOST_MESSAGES = 60;
    private static final int SHORTEST_LENGTH = 8;
    private static final int LONGEST_LENGTH = 200;
    private static final int MOST_TICKS = 100;

    private static final int NO_MODE = 0;
    private static final int READING = 1;
    private static final int WRITING = 2;

    // The kinds of messages are the leading digits of their codes.
    private static final int LEASE_REQUEST = 1;
    private static final int STORE_REQUEST = 2;
    private static final int RELEASE_REQUEST = 3;
    private static final int GRANTED = 4;
    private static final int REFUSED = 5;
    private static final int YES = 6;
    private static final int NO = 7;
    private static final int RECALL = 8;

    private final Network network;
    private final Server server;
    private final Client[] clients;

    public LeasedPages(int length) {
        int kept = Math.max(SHORTEST_LENGTH, Math.min(LONGEST_LENGTH, length));
        network = new Network();
        server = new Server(network, kept);
        clients = new Client[CLIENTS];
        for (int c = 0; c < CLIENTS; c++) {
            clients[c] = new Client(c, kept / 2 - 2, network);
        }
    }

    public int acquire(int c, int f, int mode) {
        Client client = clientThatIsUp(c);
        if (client == null || !isFile(f) || mode < READING || mode > WRITING || client.open != null) {
            return NONE;
        }
        return client.askForLease(f, mode);
    }

    public int read(int c, int f, int p, int how) {
        Client client = clientThatIsUp(c);
        if (client == null || !isFile(f) || !isPage(p) || how < 0 || how > 1) {
            return NONE;
        }
        return how == 0 ? client.readPage(f, p) : client.canRead(f);
    }

    public int write(int c, int f, int p, int v) {
        Client client = clientThatIsUp(c);
        if (client == null || !isFile(f) || !isPage(p)) {
            return NONE;
        }
        return client.writePage(f, p, v);
    }

    public int flush(int c) {
        Client client = clientThatIsUp(c);
        if (client == null || client.open != null) {
            return NONE;
        }
        return client.storeFirstWrite();
    }

    public int close(int c, int f) {
        Client client = clientThatIsUp(c);
        if (client == null || !isFile(f) || client.open != null || client.hasWritesTo(f)) {
            return NONE;
        }
        return client.giveBack(f);
    }

    public int retry(int c) {
        Client client = clientThatIsUp(c);
        return client == null ? NONE : client.sendAgain();
    }

    public int messages() {
        return network.count;
    }

    public int message(int i) {
        Message message = network.at(i);
        return message == null ? NONE : message.code();
    }

    public boolean deliver(int i) {
        Message message = network.takeOut(i);
        if (message == null) {
            return false;
        }
        if (message instanceof Request request) {
            server.requestArrives(request);
        } else if (message instanceof Reply reply) {
            clients[reply.client].replyArrives(reply);
        } else {
            clients[message.client].recallArrives(message.file);
        }
        return true;
    }

    public boolean drop(int i) {
        return network.takeOut(i) != null;
    }

    public boolean duplicate(int i) {
        Message message = network.at(i);
        return message != null && network.send(message);
    }

    public boolean tick(int x, int n) {
        if (!isNode(x) || !isUp(x) || n < 1 || n > MOST_TICKS) {
            return false;
        }
        if (x == SERVER) {
            server.advance(n);
        } else {
            clients[x].now += n;
        }
        return true;
    }

    public boolean crash(int x) {
        if (!isNode(x) || !isUp(x)) {
            return false;
        }
        if (x == SERVER) {
            server.goDown();
        } else {
            clients[x].goDown();
        }
        return true;
    }

    public boolean restart(int x) {
        if (!isNode(x) || isUp(x)) {
            return false;
        }
        if (x == SERVER) {
            server.comeUp();
        } else {
            clients[x].up = true;
        }
        return true;
    }

    public int clock(int x) {
        if (!isNode(x)) {
            return NONE;
        }
        return x == SERVER ? server.now : clients[x].now;
    }

    public int lease(int c, int f) {
        Client client = clientThatIsUp(c);
        return client == null || !isFile(f) ? NONE : client.leaseAndMarks(f);
    }

    public int dirty(int c) {
        Client client = clientThatIsUp(c);
        return client == null ? NONE : client.writeCount;
    }

    public int held(int c, int f) {
        return isClient(c) && isFile(f) ? server.leaseAndRest(c, f) : NONE;
    }

    public int waiting(int f) {
        return isFile(f) ? server.lines[f].size : NONE;
    }

    public int stored(int f, int p) {
        return isFile(f) && isPage(p) ? server.pages[f][p] : 0;
    }

    private static boolean isClient(int c) {
        return c >= 0 && c < CLIENTS;
    }

    private static boolean isNode(int x) {
        return isClient(x) || x == SERVER;
    }

    private static boolean isFile(int f) {
        return f >= 0 && f < FILES;
    }

    private static boolean isPage(int p) {
        return p >= 0 && p < PAGES;
    }

    private boolean isUp(int node) {
        return node == SERVER ? server.up : clients[node].up;
    }

    private Client clientThatIsUp(int c) {
        return isClient(c) && clients[c].up ? clients[c] : null;
    }

    /** A message under way; as it is never changed, doubles and repeats of it share one object. */
    private static class Message {
        final int kind;
        final int client;
        final int file;
        final int number;

        Message(int kind, int client, int file, int number) {
            this.kind = kind;
            this.client = client;
            this.file = file;
            this.number = number;
        }

        int code() {
            return 1000000 * kind + 100000 * client + 10000 * file + number;
        }
    }

    private static final class Request extends Message {
        private int mode;
        private boolean claim;
        private int page;
        private int value;

        private Request(int kind, int client, int file, int number) {
            super(kind, client, file, number);
        }

        static Request forLease(int client, int file, int number, int mode, boolean claim) {
            Request request = new Request(LEASE_REQUEST, client, file, number);
            request.mode = mode;
            request.claim = claim;
            return request;
        }

        static Request forStore(int client, int number, Write write) {
            Request request = new Request(STORE_REQUEST, client, write.file, number);
            request.page = write.page;
            request.value = write.value;
            return request;
        }

        static Request forRelease(int client, int file, int number) {
            return new Request(RELEASE_REQUEST, client, file, number);
        }
    }

    private static final class Reply extends Message {
        final int mode;
        final boolean continued;
        // Pages as they were when the lease was granted: a repeated reply must not show later ones.
        final int[] pages;

        Reply(int kind, Request request, boolean continued, int[] pages) {
            super(kind, request.client, request.file, request.number);
            this.mode = request.mode;
            this.continued = continued;
            this.pages = pages;
        }
    }

    /** The messages under way, in the order in which they were sent. */
    private static final class Network {
        private final Message[] list = new Message[MOST_MESSAGES];
        private int count = 0;

        boolean send(Message message) {
            if (count >= MOST_MESSAGES) {
                return false;
            }
            list[count] = message;
            count++;
            return true;
        }

        Message at(int i) {
            return i >= 0 && i < count ? list[i] : null;
        }

        Message takeOut(int i) {
            Message taken = at(i);
            if (taken != null) {
                count--;
                for (int k = i; k < count; k++) {
                    list[k] = list[k + 1];
                }
                list[count] = null;
            }
            return taken;
        }
    }

    /** The lease requests that wait for one file; a client has at most one in all lines together. */
    private static final class Line {
        private final Request[] requests = new Request[CLIENTS];
        private int size = 0;

        Request first() {
            return size > 0 ? requests[0] : null;
        }

        Request ofClient(int client) {
            int place = placeOf(client);
            return place < size ? requests[place] : null;
        }

        void add(Request request) {
            if (size < CLIENTS) {
                requests[size] = request;
                size++;
            }
        }

        void takeOut(int client) {
            int place = placeOf(client);
            if (place < size) {
                size--;
                for (int k = place; k < size; k++) {
                    requests[k] = requests[k + 1];
                }
                requests[size] = null;
            }
        }

        void clear() {
            for (int i = 0; i < CLIENTS; i++) {
                requests[i] = null;
            }
            size = 0;
        }

        private int placeOf(int client) {
            for (int i = 0; i < size; i++) {
                if (requests[i].client == client) {
                    return i;
                }
            }
            return size;
        }
    }

    private static final class Server {
        private final Network network;
        private final int length;
        private final int[][] pages = new int[FILES][PAGES];
        private final Reply[] latestReplies = new Reply[CLIENTS];
        private final int[][] modes = new int[CLIENTS][FILES];
        private final int[][] ends = new int[CLIENTS][FILES];
        private final Line[] lines = new Line[FILES];
        private boolean up = true;
        private int now = 0;
        private boolean inGrace = false;
        private int graceEnd = 0;

        Server(Network network, int length) {
            this.network = network;
            this.length = length;
            for (int f = 0; f < FILES; f++) {
                lines[f] = new Line();
            }
        }

        void goDown() {
            up = false;
            for (int c = 0; c < CLIENTS; c++) {
                Arrays.fill(modes[c], NO_MODE);
            }
            for (int f = 0; f < FILES; f++) {
                lines[f].clear();
            }
        }

        void comeUp() {
            up = true;
            inGrace = true;
            graceEnd = now + length;
        }

        void advance(int ticks) {
            for (int i = 0; i < ticks; i++) {
                now++;
                endLeases();
                if (now >= graceEnd) {
                    inGrace = false;
                }
                goThroughLines();
            }
        }

        int leaseAndRest(int c, int f) {
            return hasLease(c, f) ? 1000 * modes[c][f] + ends[c][f] - now : 0;
        }

        void requestArrives(Request request) {
            if (!up) {
                return;
            }
            Reply latest = latestReplies[request.client];
            if (latest != null && request.number == latest.number) {
                network.send(latest);
            } else if ((latest == null || request.number > latest.number) && !waitsAlready(request)) {
                takeOutOfLines(request.client);
                if (request.kind == LEASE_REQUEST) {
                    serveLease(request);
                } else if (request.kind == STORE_REQUEST) {
                    serveStore(request);
                } else {
                    serveRelease(request);
                }
            }
            goThroughLines();
        }

        private void serveLease(Request request) {
            Line line = lines[request.file];
            // The client's own waiting request has been taken out before: whoever waits here is another client.
            boolean othersWait = line.size > 0;
            boolean renews = hasLease(request.client, request.file);
            if (renews && othersWait) {
                finish(new Reply(REFUSED, request, false, null));
                return;
            }
            boolean itsTurn = inGrace ? request.claim : renews || !othersWait;
            if (itsTurn && !conflictsWithAny(request)) {
                grant(request);
            } else {
                line.add(request);
                recallConflicting(request);
            }
        }

        private void serveStore(Request request) {
            boolean may = modes[request.client][request.file] == WRITING;
            if (may) {
                pages[request.file][request.page] = request.value;
            }
            finish(new Reply(may ? YES : NO, request, false, null));
        }

        private void serveRelease(Request request) {
            modes[request.client][request.file] = NO_MODE;
            finish(new Reply(YES, request, false, null));
        }

        private void grant(Request request) {
            int c = request.client;
            int f = request.file;
            // In grace only claims are granted, so grace alone tells that this was one.
            boolean continued = hasLease(c, f) || inGrace;
            modes[c][f] = request.mode;
            ends[c][f] = now + length;
            finish(new Reply(GRANTED, request, continued, pages[f].clone()));
        }

        private void finish(Reply reply) {
            latestReplies[reply.client] = reply;
            network.send(reply);
        }

        private void recallConflicting(Request request) {
            for (int c = 0; c < CLIENTS; c++) {
                if (conflicts(request, c)) {
                    network.send(new Message(RECALL, c, request.file, 0));
                }
            }
        }

        private void goThroughLines() {
            if (inGrace) {
                return;
            }
            for (int f = 0; f < FILES; f++) {
                for (int i = 0; i < CLIENTS; i++) {
                    Request first = lines[f].first();
                    if (first == null || conflictsWithAny(first)) {
                        break;
                    }
                    lines[f].takeOut(first.client);
                    grant(first);
                }
            }
        }

        private void endLeases() {
            for (int c = 0; c < CLIENTS; c++) {
                for (int f = 0; f < FILES; f++) {
                    if (ends[c][f] <= now) {
                        modes[c][f] = NO_MODE;
                    }
                }
            }
        }

        private boolean hasLease(int c, int f) {
            return modes[c][f] != NO_MODE;
        }

        private boolean conflicts(Request request, int c) {
            return c != request.client && hasLease(c, request.file)
                    && (request.mode == WRITING || modes[c][request.file] == WRITING);
        }

        private boolean conflictsWithAny(Request request) {
            for (int c = 0; c < CLIENTS; c++) {
                if (conflicts(request, c)) {
                    return true;
                }
            }
            return false;
        }

        private boolean waitsAlready(Request request) {
            Request waiting = lines[request.file].ofClient(request.client);
            return waiting != null && waiting.number == request.number;
        }

        private void takeOutOfLines(int client) {
            for (int f = 0; f < FILES; f++) {
                lines[f].takeOut(client);
            }
        }
    }

    /** A write that the server has not stored yet. */
    private static final class Write {
        final int file;
        final int page;
        final int value;

        Write(int file, int page, int value) {
            this.file = file;
            this.page = page;
            this.value = value;
        }
    }

    /** What a client knows of one file. */
    private static final class Copy {
        private final int[] pages = new int[PAGES];
        private int mode = NO_MODE;
        private int validUntil = 0;
        private boolean recalled = false;
        private boolean lost = false;

        boolean allows(int wanted, int now) {
            return mode >= wanted && now < validUntil;
        }

        boolean takeLostMark() {
            boolean marked = lost;
            lost = false;
            return marked;
        }

        void forget() {
            Arrays.fill(pages, 0);
            mode = NO_MODE;
            validUntil = 0;
            recalled = false;
            lost = false;
        }
    }

    private static final class Client {
        private final int id;
        private final int term;
        private final Network network;
        private final Copy[] copies = new Copy[FILES];
        private final Write[] writes = new Write[MOST_DIRTY];
        private int writeCount = 0;
        private boolean up = true;
        private int now = 0;
        private int latestNumber = 0;
        private Request open = null;
        private int openSince = 0;

        Client(int id, int term, Network network) {
            this.id = id;
            this.term = term;
            this.network = network;
            for (int f = 0; f < FILES; f++) {
                copies[f] = new Copy();
            }
        }

        void goDown() {
            up = false;
            open = null;
            keepWrites(0);
            for (int f = 0; f < FILES; f++) {
                copies[f].forget();
            }
        }

        int askForLease(int f, int mode) {
            Copy copy = copies[f];
            if (copy.takeLostMark()) {
                return LOST;
            }
            int asked = copy.allows(WRITING, now) || hasWritesTo(f) ? WRITING : mode;
            return sendNew(Request.forLease(id, f, latestNumber + 1, asked, copy.allows(asked, now)));
        }

        int readPage(int f, int p) {
            Copy copy = copies[f];
            if (copy.takeLostMark()) {
                return LOST;
            }
            return copy.allows(READING, now) ? copy.pages[p] : NO_LEASE;
        }

        int canRead(int f) {
            if (copies[f].lost) {
                return LOST;
            }
            return copies[f].allows(READING, now) ? 1 : NO_LEASE;
        }

        int writePage(int f, int p, int v) {
            Copy copy = copies[f];
            if (copy.takeLostMark()) {
                return LOST;
            }
            if (!copy.allows(WRITING, now)) {
                return NO_LEASE;
            }
            if (writeCount >= MOST_DIRTY) {
                return FULL;
            }
            copy.pages[p] = v;
            writes[writeCount] = new Write(f, p, v);
            writeCount++;
            return writeCount;
        }

        int storeFirstWrite() {
            if (writeCount == 0) {
                return NONE;
            }
            Write first = writes[0];
            if (!copies[first.file].allows(WRITING, now)) {
                return NO_LEASE;
            }
            return sendNew(Request.forStore(id, latestNumber + 1, first));
        }

        int giveBack(int f) {
            Copy copy = copies[f];
            if (copy.takeLostMark()) {
                return LOST;
            }
            if (copy.mode == NO_MODE) {
                return NO_LEASE;
            }
            copy.mode = NO_MODE;
            copy.recalled = false;
            return sendNew(Request.forRelease(id, f, latestNumber + 1));
        }

        int sendAgain() {
            if (open == null) {
                return NONE;
            }
            network.send(open);
            return open.number;
        }

        int leaseAndMarks(int f) {
            Copy copy = copies[f];
            int mode = copy.allows(READING, now) ? copy.mode : 0;
            return mode + (copy.recalled ? 10 : 0) + (copy.lost ? 100 : 0);
        }

        boolean hasWritesTo(int f) {
            for (int i = 0; i < writeCount; i++) {
                if (writes[i].file == f) {
                    return true;
                }
            }
            return false;
        }

        void recallArrives(int f) {
            if (up) {
                copies[f].recalled = true;
            }
        }

        void replyArrives(Reply reply) {
            if (!up || open == null || open.number != reply.number) {
                return;
            }
            boolean wasStore = open.kind == STORE_REQUEST;
            open = null;
            if (reply.kind == GRANTED) {
                takeLease(reply);
            } else if (reply.kind == NO) {
                loseLease(reply.file);
            } else if (reply.kind == YES && wasStore) {
                removeFirstWriteTo(reply.file);
            }
        }

        private int sendNew(Request request) {
            latestNumber = request.number;
            open = request;
            openSince = now;
            network.send(request);
            return request.number;
        }

        private void takeLease(Reply reply) {
            Copy copy = copies[reply.file];
            copy.mode = reply.mode;
            copy.validUntil = openSince + term;
            copy.recalled = false;
            if (!reply.continued && hasWritesTo(reply.file)) {
                removeAllWritesTo(reply.file);
                copy.lost = true;
            }
            if (reply.pages != null) {
                System.arraycopy(reply.pages, 0, copy.pages, 0, PAGES);
            }
            redoWritesOn(reply.file);
        }

        private void redoWritesOn(int f) {
            for (int i = 0; i < writeCount; i++) {
                if (writes[i].file == f) {
                    copies[f].pages[writes[i].page] = writes[i].value;
                }
            }
        }

        private void loseLease(int f) {
            removeAllWritesTo(f);
            copies[f].lost = true;
            copies[f].mode = NO_MODE;
        }

        private void removeFirstWriteTo(int f) {
            int kept = 0;
            boolean found = false;
            for (int i = 0; i < writeCount; i++) {
                if (!found && writes[i].file == f) {
                    found = true;
                } else {
                    writes[kept] = writes[i];
                    kept++;
                }
            }
            keepWrites(kept);
        }

        private void removeAllWritesTo(int f) {
            int kept = 0;
            for (int i = 0; i < writeCount; i++) {
                if (writes[i].file != f) {
                    writes[kept] = writes[i];
                    kept++;
                }
            }
            keepWrites(kept);
        }

        private void keepWrites(int kept) {
            for (int i = kept; i < writeCount; i++) {
                writes[i] = null;
            }
            writeCount = kept;
        }
    }
}
