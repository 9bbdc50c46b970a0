/** The document's "Terms": what replies and recalls do at a client. */
public final class ClientTermsTest {
    private static final Check CHECK = new Check("ClientTermsTest");

    public static void main(String[] args) {
        replyToAnotherRequestDoesNothing();
        grantThatGoesOnKeepsDirtyWrites();
        grantThatDoesNotGoOnLosesThem();
        grantWithoutDirtyWritesMarksNothing();
        storedWithNo();
        storedWithNoLeavesTheMarkRecalled();
        refusedChangesNothing();
        lateRecall();
        repeatedGrantShowsThePagesOfItsTime();
        CHECK.end();
    }

    /**
     * On a new object: client c gets file f for writing, writes, lets the server's lease run out,
     * and gets a new one: requests 1 to 3 (the second is for a lease on another file).
     */
    static void loseWrites(LeasedPages x, int c, int f) {
        Check.getLease(x, c, f, 2);
        x.write(c, f, 0, 41);
        x.write(c, f, 1, 42);
        x.tick(3, 100);
        x.tick(3, 100);
        Check.getLease(x, c, f == 0 ? 1 : 0, 1);
        Check.getLease(x, c, f, 2);
    }

    private static void replyToAnotherRequestDoesNothing() {
        LeasedPages x = new LeasedPages(20);
        x.acquire(0, 0, 2);
        x.duplicate(0);
        x.deliver(0);
        x.deliver(0);
        CHECK.due("the reply is sent again", x.message(0), 4000001);
        CHECK.due("two", x.messages(), 2);
        x.deliver(0);
        CHECK.due("close", x.close(0, 0), 2);
        x.deliver(0);
        CHECK.due("a reply to request 1 while 2 is open", x.lease(0, 0), 0);
        CHECK.due("2 is open yet", x.retry(0), 2);
        x.deliver(0);
        x.deliver(0);
        x.duplicate(0);
        x.deliver(0);
        CHECK.due("open no more", x.retry(0), -1);
        x.deliver(0);
        CHECK.due("a reply with none open", x.lease(0, 0), 0);
    }

    private static void grantThatGoesOnKeepsDirtyWrites() {
        LeasedPages x = new LeasedPages(12);
        Check.getLease(x, 0, 0, 2);
        x.write(0, 0, 3, 9);
        x.write(0, 0, 0, 1);
        x.write(0, 0, 0, 2);
        x.write(0, 0, 1, 3);
        x.tick(0, 4);
        CHECK.due("number", x.acquire(0, 0, 1), 2);
        x.deliver(0);
        x.deliver(0);
        CHECK.due("lease", x.lease(0, 0), 2);
        CHECK.due("the last write to a page", x.read(0, 0, 0, 0), 2);
        CHECK.due("the last write of all", x.read(0, 0, 1, 0), 3);
        CHECK.due("the first write of all", x.read(0, 0, 3, 0), 9);
        CHECK.due("a page that is the server's", x.read(0, 0, 2, 0), 0);
        CHECK.due("dirty", x.dirty(0), 4);
    }

    private static void grantThatDoesNotGoOnLosesThem() {
        LeasedPages x = new LeasedPages(12);
        Check.getLease(x, 0, 0, 2);
        Check.getLease(x, 0, 1, 2);
        x.write(0, 1, 0, 5);
        x.write(0, 0, 0, 6);
        x.write(0, 1, 1, 7);
        x.write(0, 0, 1, 8);
        x.tick(3, 12);
        Check.getLease(x, 0, 0, 2);
        CHECK.due("marked, with a lease", x.lease(0, 0), 102);
        CHECK.due("the other file's writes stay", x.dirty(0), 2);
        CHECK.due("LOST", x.read(0, 0, 0, 0), -3);
        CHECK.due("the copy is the server's", x.read(0, 0, 0, 0), 0);
        CHECK.due("the other file", x.lease(0, 1), 2);
        Check.getLease(x, 0, 1, 2);
        CHECK.due("then the other file's go", x.dirty(0), 0);
        CHECK.due("marked", x.lease(0, 1), 102);
    }

    private static void grantWithoutDirtyWritesMarksNothing() {
        LeasedPages x = new LeasedPages(12);
        Check.getLease(x, 0, 0, 2);
        Check.getLease(x, 0, 1, 2);
        x.write(0, 1, 0, 5);
        x.tick(3, 12);
        Check.getLease(x, 0, 0, 2);
        CHECK.due("no mark", x.lease(0, 0), 2);
        CHECK.due("dirty", x.dirty(0), 1);
    }

    private static void storedWithNo() {
        LeasedPages x = new LeasedPages(12);
        Check.getLease(x, 0, 0, 2);
        Check.getLease(x, 0, 1, 2);
        x.write(0, 0, 0, 5);
        x.write(0, 1, 0, 6);
        x.write(0, 0, 1, 7);
        x.tick(3, 12);
        x.flush(0);
        x.deliver(0);
        CHECK.due("no", x.message(0), 7000003);
        CHECK.due("not stored", x.stored(0, 0), 0);
        x.deliver(0);
        CHECK.due("marked, without a lease", x.lease(0, 0), 100);
        CHECK.due("the other file's write stays", x.dirty(0), 1);
        CHECK.due("the other lease stays", x.lease(0, 1), 2);
        CHECK.due("LOST", x.close(0, 0), -3);
        CHECK.due("it has none, valid or not", x.close(0, 0), -2);
    }

    private static void storedWithNoLeavesTheMarkRecalled() {
        LeasedPages x = new LeasedPages(12);
        Check.getLease(x, 0, 0, 2);
        x.write(0, 0, 0, 5);
        x.acquire(1, 0, 1);
        x.deliver(0);
        x.deliver(0);
        x.tick(3, 12);
        x.drop(0);
        Check.storeFirst(x, 0);
        CHECK.due("recalled and lost, without a lease", x.lease(0, 0), 110);
    }

    private static void refusedChangesNothing() {
        LeasedPages x = new LeasedPages(20);
        Check.getLease(x, 0, 0, 2);
        x.write(0, 0, 0, 5);
        x.acquire(1, 0, 1);
        x.deliver(0);
        x.deliver(0);
        x.acquire(0, 0, 2);
        x.deliver(0);
        CHECK.due("refused", x.message(0), 5000002);
        x.tick(0, 3);
        x.deliver(0);
        CHECK.due("lease and mark as before", x.lease(0, 0), 12);
        CHECK.due("dirty", x.dirty(0), 1);
        CHECK.due("open no more", x.retry(0), -1);
        x.tick(0, 5);
        CHECK.due("no longer than before", x.lease(0, 0), 10);
        CHECK.due("the server's lease is no longer either", x.held(0, 0), 2020);
    }

    private static void lateRecall() {
        LeasedPages x = new LeasedPages(20);
        Check.getLease(x, 0, 0, 2);
        x.acquire(1, 0, 1);
        x.deliver(0);
        x.duplicate(0);
        x.duplicate(0);
        x.duplicate(0);
        x.close(0, 0);
        x.deliver(4);
        x.deliver(4);
        x.deliver(0);
        CHECK.due("marked without a lease", x.lease(0, 0), 10);
        x.crash(0);
        CHECK.yes("arrives at a client that is down", x.deliver(0));
        x.restart(0);
        CHECK.due("no mark", x.lease(0, 0), 0);
        x.deliver(0);
        CHECK.due("marked again", x.lease(0, 0), 10);
        x.tick(3, 20);
        Check.getLease(x, 0, 0, 1);
        CHECK.due("a grant takes the mark away", x.lease(0, 0), 1);
    }

    private static void repeatedGrantShowsThePagesOfItsTime() {
        LeasedPages x = new LeasedPages(12);
        x.acquire(0, 0, 1);
        x.deliver(0);
        x.drop(0);
        x.tick(3, 12);
        Check.getLease(x, 1, 0, 2);
        x.write(1, 0, 0, 9);
        Check.storeFirst(x, 1);
        CHECK.due("stored", x.stored(0, 0), 9);
        x.retry(0);
        x.deliver(0);
        CHECK.due("sent again", x.message(0), 4000001);
        CHECK.due("but no new lease", x.held(0, 0), 0);
        x.deliver(0);
        CHECK.due("old page", x.read(0, 0, 0, 0), 0);
    }
}
