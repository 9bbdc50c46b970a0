/** Nodes that are down: what arrives there, what is asked of them, and what they have kept. */
public final class DownTest {
    private static final Check CHECK = new Check("DownTest");

    public static void main(String[] args) {
        requestsToAServerThatIsDown();
        repliesToAClientThatIsDown();
        repliesAfterTheRestart();
        recallToAClientThatIsDown();
        callsOnAClientThatIsDown();
        callsOnAServerThatIsDown();
        clientsGoOnWithoutTheServer();
        messagesStayUnderWay();
        crashOfOneLeavesTheOthers();
        leasesAndLinesOfAllFilesAreForgotten();
        clientForgetsAllFiles();
        CHECK.end();
    }

    private static void requestsToAServerThatIsDown() {
        for (int kind = 1; kind <= 3; kind++) {
            LeasedPages x = new LeasedPages(20);
            Check.getLease(x, 0, 0, 2);
            Check.getLease(x, 0, 1, 2);
            x.write(0, 0, 0, 5);
            int number = kind == 1 ? x.acquire(0, 2, 1) : kind == 2 ? x.flush(0) : x.close(0, 1);
            String what = "kind " + kind;
            x.crash(3);
            CHECK.yes(what + " arrives", x.deliver(0));
            CHECK.due(what + " is lost", x.messages(), 0);
            CHECK.due(what + ": not stored", x.stored(0, 0), 0);
            x.restart(3);
            CHECK.due(what + ": nothing waits", x.waiting(2), 0);
            CHECK.due(what + ": it is open yet", x.retry(0), number);
            x.deliver(0);
            int due = kind == 1 ? 0 : kind == 2 ? 7000003 : 6010003;
            CHECK.due(what + " is not done before", kind == 1 ? x.messages() : x.message(0), due);
            CHECK.due(what + ": waits now", x.waiting(2), kind == 1 ? 1 : 0);
        }
    }

    /** The reply to client 0's request of this kind is message 0: 4 granted, 5 refused, 6 yes, 7 no. */
    private static LeasedPages replyUnderWay(int kind) {
        LeasedPages x = new LeasedPages(20);
        Check.getLease(x, 0, 0, 2);
        x.write(0, 0, 0, 5);
        if (kind == 5) {
            x.acquire(1, 0, 1);
            x.deliver(0);
            x.drop(0);
        }
        if (kind == 7) {
            x.tick(3, 20);
        }
        if (kind < 6) {
            x.acquire(0, 0, 2);
        } else {
            x.flush(0);
        }
        x.deliver(0);
        CHECK.due("reply", x.message(0), 1000000 * kind + 2);
        return x;
    }

    private static void repliesToAClientThatIsDown() {
        for (int kind = 4; kind <= 7; kind++) {
            LeasedPages x = replyUnderWay(kind);
            x.crash(0);
            CHECK.yes("reply " + kind + " arrives", x.deliver(0));
            CHECK.due("reply " + kind + " is gone", x.messages(), 0);
            x.restart(0);
            CHECK.due("reply " + kind + ": no lease and no mark", x.lease(0, 0), 0);
            CHECK.due("reply " + kind + ": no lease, valid or not", x.close(0, 0), LeasedPages.NO_LEASE);
            CHECK.due("reply " + kind + ": no dirty write", x.dirty(0), 0);
        }
    }

    private static void repliesAfterTheRestart() {
        for (int kind = 4; kind <= 7; kind++) {
            LeasedPages x = replyUnderWay(kind);
            x.duplicate(0);
            x.crash(0);
            x.restart(0);
            CHECK.yes("reply " + kind + " arrives with none open", x.deliver(0));
            CHECK.due("reply " + kind + ": nothing", x.lease(0, 0), 0);
            CHECK.due("another request", x.acquire(0, 1, 1), 3);
            CHECK.yes("reply " + kind + " arrives with 3 open", x.deliver(0));
            CHECK.due("reply " + kind + ": nothing", x.lease(0, 0) + x.lease(0, 1), 0);
            CHECK.due("3 is open yet", x.retry(0), 3);
        }
    }

    private static void recallToAClientThatIsDown() {
        LeasedPages x = new LeasedPages(20);
        Check.getLease(x, 0, 0, 2);
        x.acquire(1, 0, 1);
        x.deliver(0);
        x.duplicate(0);
        x.crash(0);
        CHECK.yes("arrives", x.deliver(0));
        CHECK.due("gone", x.messages(), 1);
        x.restart(0);
        CHECK.due("no mark", x.lease(0, 0), 0);
        x.deliver(0);
        CHECK.due("a mark for one that is up", x.lease(0, 0), 10);
        CHECK.due("on that file alone", x.lease(0, 1), 0);
        CHECK.due("of that client alone", x.lease(2, 0), 0);
    }

    private static void callsOnAClientThatIsDown() {
        for (int c = 0; c < 3; c++) {
            LeasedPages x = new LeasedPages(20);
            x.tick(c, 4);
            Check.getLease(x, c, 0, 2);
            x.write(c, 0, 0, 5);
            x.acquire(c, 1, 1);
            x.crash(c);
            CHECK.due("acquire", x.acquire(c, 0, 1), -1);
            CHECK.due("read", x.read(c, 0, 0, 0), -1);
            CHECK.due("whether", x.read(c, 0, 0, 1), -1);
            CHECK.due("write", x.write(c, 0, 0, 1), -1);
            CHECK.due("flush", x.flush(c), -1);
            CHECK.due("close", x.close(c, 0), -1);
            CHECK.due("retry", x.retry(c), -1);
            CHECK.due("lease", x.lease(c, 0), -1);
            CHECK.due("dirty", x.dirty(c), -1);
            CHECK.no("tick", x.tick(c, 1));
            CHECK.no("crash", x.crash(c));
            CHECK.due("clock", x.clock(c), 4);
            CHECK.due("held", x.held(c, 0), 2020);
            CHECK.due("messages", x.messages(), 1);
            CHECK.yes("restart", x.restart(c));
            CHECK.no("restart again", x.restart(c));
            CHECK.due("clock", x.clock(c), 4);
            CHECK.due("the number is kept", x.acquire(c, 1, 1), 3);
        }
    }

    private static void callsOnAServerThatIsDown() {
        LeasedPages x = new LeasedPages(20);
        x.tick(3, 9);
        Check.getLease(x, 0, 0, 2);
        x.write(0, 0, 3, 5);
        Check.storeFirst(x, 0);
        x.acquire(1, 0, 1);
        x.deliver(0);
        CHECK.due("before: waiting", x.waiting(0), 1);
        CHECK.yes("crash", x.crash(3));
        CHECK.no("crash again", x.crash(3));
        CHECK.no("tick", x.tick(3, 1));
        CHECK.due("clock", x.clock(3), 9);
        CHECK.due("held", x.held(0, 0), 0);
        CHECK.due("held of no such client", x.held(-1, 0), -1);
        CHECK.due("held of no such file", x.held(0, 4), -1);
        CHECK.due("waiting", x.waiting(0), 0);
        CHECK.due("waiting for no such file", x.waiting(-1), -1);
        CHECK.due("stored", x.stored(0, 3), 5);
        CHECK.due("stored in no such page", x.stored(0, 4), 0);
        CHECK.yes("restart", x.restart(3));
        CHECK.no("restart again", x.restart(3));
        CHECK.due("clock", x.clock(3), 9);
        CHECK.due("held", x.held(0, 0), 0);
        CHECK.due("waiting", x.waiting(0), 0);
        CHECK.due("stored", x.stored(0, 3), 5);
    }

    private static void clientsGoOnWithoutTheServer() {
        LeasedPages x = new LeasedPages(20);
        Check.getLease(x, 0, 0, 2);
        x.crash(3);
        CHECK.due("write", x.write(0, 0, 0, 5), 1);
        CHECK.due("read", x.read(0, 0, 0, 0), 5);
        CHECK.due("lease", x.lease(0, 0), 2);
        CHECK.due("flush", x.flush(0), 2);
        CHECK.due("retry", x.retry(0), 2);
        CHECK.due("acquire", x.acquire(1, 0, 1), 1);
        CHECK.due("messages", x.messages(), 3);
        CHECK.yes("tick", x.tick(0, 7));
        CHECK.due("lease", x.lease(0, 0), 2);
        x.tick(0, 1);
        CHECK.due("lease", x.lease(0, 0), 0);
    }

    private static void messagesStayUnderWay() {
        LeasedPages x = new LeasedPages(20);
        x.acquire(0, 0, 2);
        x.deliver(0);
        x.acquire(1, 0, 2);
        x.crash(0);
        x.crash(3);
        CHECK.due("the server's reply", x.message(0), 4000001);
        CHECK.due("client 1's request", x.message(1), 1100001);
        CHECK.yes("duplicate", x.duplicate(1));
        CHECK.yes("drop", x.drop(1));
        x.restart(3);
        CHECK.due("messages", x.messages(), 2);
        x.deliver(1);
        CHECK.due("it waits in grace", x.waiting(0), 1);
    }

    private static void crashOfOneLeavesTheOthers() {
        LeasedPages x = new LeasedPages(20);
        for (int c = 0; c < 3; c++) {
            Check.getLease(x, c, c, 2);
            x.write(c, c, 0, c + 1);
        }
        x.crash(1);
        CHECK.due("0", x.lease(0, 0) * 100 + x.dirty(0), 201);
        CHECK.due("2", x.lease(2, 2) * 100 + x.dirty(2), 201);
        x.crash(3);
        CHECK.due("0", x.lease(0, 0) * 100 + x.dirty(0), 201);
        x.restart(1);
        CHECK.due("the server is down yet", x.held(0, 0), 0);
        CHECK.no("and does not tick", x.tick(3, 1));
    }

    private static void leasesAndLinesOfAllFilesAreForgotten() {
        for (int f = 0; f < 4; f++) {
            LeasedPages x = new LeasedPages(20);
            Check.getLease(x, 0, f, 2);
            x.acquire(1, f, 1);
            x.deliver(0);
            CHECK.due("one waits for file " + f, x.waiting(f), 1);
            Check.dropAll(x);
            x.crash(3);
            CHECK.due("down: waiting " + f, x.waiting(f), 0);
            x.restart(3);
            CHECK.due("waiting " + f, x.waiting(f), 0);
            CHECK.due("held " + f, x.held(0, f), 0);
            x.tick(3, 20);
            CHECK.due("nobody is granted file " + f + " when grace is over", x.messages(), 0);
        }
    }

    private static void clientForgetsAllFiles() {
        for (int f = 0; f < 4; f++) {
            LeasedPages x = new LeasedPages(20);
            Check.getLease(x, 0, f, 2);
            x.write(0, f, 0, 5);
            x.acquire(1, f, 1);
            x.deliver(0);
            x.deliver(0);
            CHECK.due("recalled " + f, x.lease(0, f), 12);
            x.crash(0);
            x.restart(0);
            CHECK.due("no lease and no mark on " + f, x.lease(0, f), 0);
            CHECK.due("no lease to give back on " + f, x.close(0, f), LeasedPages.NO_LEASE);
            CHECK.due("no write to " + f, x.flush(0), LeasedPages.NONE);

            LeasedPages y = new LeasedPages(20);
            ClientTermsTest.loseWrites(y, 0, f);
            CHECK.due("lost " + f, y.lease(0, f), 102);
            y.crash(0);
            y.restart(0);
            CHECK.due("no mark LOST on " + f, y.acquire(0, f, 1), 4);
        }
    }
}
