/** The document's "Terms": what requests and ticks do at the server. */
public final class ServerTermsTest {
    private static final Check CHECK = new Check("ServerTermsTest");

    public static void main(String[] args) {
        oldRequestDoesNothing();
        waitingRequestIsNotTakenTwice();
        anotherRequestTakesTheWaitingOneOut();
        anOlderRequestTakesTheWaitingOneOut();
        doneRequestLeavesTheLineAlone();
        leasesForReadingDoNotConflict();
        lineComesFirst();
        recallsGoInOrder();
        holderIsRefusedWhenAnotherWaits();
        holderMayChangeItsMode();
        aReleaseLetsAllReadersIn();
        storeNeedsALeaseForWriting();
        grace();
        graceIsCountedFromTheLastRestart();
        claimsInGrace();
        CHECK.end();
    }

    private static void oldRequestDoesNothing() {
        LeasedPages x = new LeasedPages(20);
        x.acquire(0, 0, 2);
        x.duplicate(0);
        x.deliver(1);
        x.deliver(1);
        x.close(0, 0);
        x.deliver(1);
        x.deliver(1);
        CHECK.due("only the old request is left", x.message(0), 1000001);
        x.deliver(0);
        CHECK.due("no lease", x.held(0, 0), 0);
        CHECK.due("no reply", x.messages(), 0);
    }

    private static void waitingRequestIsNotTakenTwice() {
        LeasedPages x = new LeasedPages(20);
        Check.getLease(x, 0, 0, 2);
        x.acquire(1, 0, 1);
        x.duplicate(0);
        x.deliver(0);
        x.deliver(0);
        CHECK.due("waits once", x.waiting(0), 1);
        CHECK.due("one recall", x.messages(), 1);
    }

    private static void anotherRequestTakesTheWaitingOneOut() {
        LeasedPages x = new LeasedPages(20);
        Check.getLease(x, 0, 0, 2);
        x.acquire(1, 0, 2);
        x.deliver(0);
        x.acquire(2, 0, 1);
        x.deliver(1);
        Check.dropAll(x);
        x.crash(1);
        x.restart(1);
        CHECK.due("new request of 1", x.acquire(1, 1, 1), 2);
        x.deliver(0);
        CHECK.due("its old one is out of the line", x.waiting(0), 1);
        CHECK.due("granted", x.held(1, 1), 1020);
        Check.dropAll(x);
        x.close(0, 0);
        x.deliver(0);
        CHECK.due("client 2 is the first", x.held(2, 0), 1020);
        CHECK.due("client 1 gets nothing", x.held(1, 0), 0);
    }

    private static void anOlderRequestTakesTheWaitingOneOut() {
        LeasedPages x = new LeasedPages(20);
        Check.getLease(x, 0, 0, 2);
        x.acquire(1, 0, 2);
        x.duplicate(0);
        x.deliver(0);
        x.crash(1);
        x.restart(1);
        x.acquire(1, 0, 1);
        x.deliver(x.messages() - 1);
        CHECK.due("request 2 waits alone", x.waiting(0), 1);
        CHECK.due("the double of request 1", x.message(0), 1100001);
        x.deliver(0);
        CHECK.due("one waits", x.waiting(0), 1);
        Check.dropAll(x);
        x.tick(3, 20);
        CHECK.due("it is request 1", x.message(0), 4100001);
        CHECK.due("for writing", x.held(1, 0), 2020);
    }

    private static void doneRequestLeavesTheLineAlone() {
        LeasedPages x = new LeasedPages(20);
        Check.getLease(x, 0, 0, 2);
        x.acquire(1, 1, 1);
        x.duplicate(0);
        x.deliver(1);
        x.deliver(1);
        x.acquire(1, 0, 1);
        x.deliver(1);
        CHECK.due("waits", x.waiting(0), 1);
        x.deliver(0);
        CHECK.due("the done one came again: waits yet", x.waiting(0), 1);
        CHECK.due("its reply was sent again", x.message(1), 4110001);
    }

    private static void leasesForReadingDoNotConflict() {
        LeasedPages x = new LeasedPages(20);
        for (int c = 0; c < 3; c++) {
            Check.getLease(x, c, 0, 1);
            CHECK.due("reading together", x.held(c, 0), 1020);
            Check.getLease(x, c, c + 1, 2);
            CHECK.due("writing other files", x.held(c, c + 1), 2020);
        }
    }

    private static void lineComesFirst() {
        LeasedPages x = new LeasedPages(20);
        Check.getLease(x, 0, 0, 1);
        x.acquire(1, 0, 2);
        x.deliver(0);
        x.acquire(2, 0, 1);
        x.deliver(1);
        CHECK.due("reading would not conflict, but waits behind", x.waiting(0), 2);
        CHECK.due("and recalls nobody", x.messages(), 1);
        x.close(0, 0);
        x.deliver(1);
        CHECK.due("the writer", x.held(1, 0), 2020);
        CHECK.due("the reader waits", x.waiting(0), 1);
    }

    private static void recallsGoInOrder() {
        LeasedPages x = new LeasedPages(20);
        Check.getLease(x, 2, 3, 1);
        Check.getLease(x, 1, 3, 1);
        Check.getLease(x, 0, 3, 1);
        x.acquire(1, 3, 2);
        x.deliver(0);
        CHECK.due("not to itself", x.messages(), 2);
        CHECK.due("to 0", x.message(0), 8030000);
        CHECK.due("to 2", x.message(1), 8230000);
        x.tick(3, 20);
        CHECK.due("when all are over", x.held(1, 3), 2020);
    }

    private static void holderIsRefusedWhenAnotherWaits() {
        LeasedPages x = new LeasedPages(20);
        Check.getLease(x, 0, 0, 2);
        x.acquire(1, 0, 1);
        x.deliver(0);
        Check.dropAll(x);
        x.tick(3, 5);
        x.acquire(0, 0, 1);
        x.deliver(0);
        CHECK.due("refused", x.message(0), 5000002);
        CHECK.due("its lease stays", x.held(0, 0), 2015);
        Check.dropAll(x);
        x.retry(0);
        x.deliver(0);
        CHECK.due("refused again", x.message(0), 5000002);
        x.deliver(0);
        x.acquire(0, 1, 1);
        x.deliver(0);
        CHECK.due("another file is granted", x.held(0, 1), 1020);
    }

    private static void holderMayChangeItsMode() {
        LeasedPages x = new LeasedPages(20);
        Check.getLease(x, 0, 0, 1);
        x.tick(3, 3);
        Check.getLease(x, 0, 0, 2);
        CHECK.due("for writing, and anew", x.held(0, 0), 2020);
        x.tick(0, 8);
        Check.getLease(x, 0, 0, 1);
        CHECK.due("for reading", x.held(0, 0), 1020);
        Check.getLease(x, 1, 0, 1);
        x.acquire(0, 0, 2);
        x.deliver(0);
        CHECK.due("it waits for the other reader", x.waiting(0), 1);
        CHECK.due("and has its lease yet", x.held(0, 0), 1020);
        x.deliver(0);
        x.close(1, 0);
        x.deliver(0);
        CHECK.due("granted from the line", x.held(0, 0), 2020);
    }

    private static void aReleaseLetsAllReadersIn() {
        LeasedPages x = new LeasedPages(20);
        Check.getLease(x, 0, 0, 2);
        x.acquire(1, 0, 1);
        x.deliver(0);
        x.acquire(2, 0, 1);
        x.deliver(1);
        Check.dropAll(x);
        x.close(0, 0);
        x.deliver(0);
        CHECK.due("the release is answered first", x.message(0), 6000002);
        CHECK.due("then 1", x.message(1), 4100001);
        CHECK.due("then 2", x.message(2), 4200001);
        CHECK.due("all out", x.waiting(0), 0);
    }

    private static void storeNeedsALeaseForWriting() {
        LeasedPages x = new LeasedPages(12);
        Check.getLease(x, 0, 0, 2);
        x.write(0, 0, 0, 5);
        x.flush(0);
        x.tick(3, 11);
        x.duplicate(0);
        x.deliver(0);
        CHECK.due("yes at the last tick", x.message(1), 6000002);
        CHECK.due("stored", x.stored(0, 0), 5);
        x.tick(3, 1);
        x.deliver(0);
        CHECK.due("the double gets the same reply", x.message(1), 6000002);

        LeasedPages y = new LeasedPages(12);
        Check.getLease(y, 0, 0, 2);
        y.write(0, 0, 0, 5);
        y.flush(0);
        y.crash(3);
        y.restart(3);
        y.deliver(0);
        CHECK.due("no after the server's crash", y.message(0), 7000002);
    }

    private static void grace() {
        LeasedPages x = new LeasedPages(10);
        x.tick(3, 30);
        x.crash(3);
        x.restart(3);
        x.acquire(0, 0, 1);
        x.deliver(0);
        CHECK.due("it waits", x.waiting(0), 1);
        x.acquire(1, 3, 2);
        x.deliver(0);
        x.acquire(2, 0, 2);
        x.deliver(0);
        CHECK.due("no recalls", x.messages(), 0);
        x.tick(3, 9);
        CHECK.due("grace", x.waiting(0), 2);
        x.tick(3, 1);
        CHECK.due("file 0 first", x.message(0), 4000001);
        CHECK.due("then file 3", x.message(1), 4130001);
        CHECK.due("the writer waits", x.waiting(0), 1);
        CHECK.due("no recall when grace is over", x.messages(), 2);
        CHECK.due("held", x.held(0, 0), 1010);
    }

    private static void graceIsCountedFromTheLastRestart() {
        LeasedPages x = new LeasedPages(10);
        x.crash(3);
        x.restart(3);
        x.tick(3, 8);
        x.crash(3);
        x.restart(3);
        x.acquire(0, 0, 1);
        x.deliver(0);
        x.tick(3, 9);
        CHECK.due("grace", x.waiting(0), 1);
        x.tick(3, 1);
        CHECK.due("over", x.waiting(0), 0);
        x.acquire(1, 0, 1);
        Check.deliverLast(x);
        CHECK.due("granted at once", x.held(1, 0), 1010);
    }

    private static void claimsInGrace() {
        LeasedPages x = new LeasedPages(20);
        Check.getLease(x, 0, 0, 2);
        x.write(0, 0, 0, 5);
        Check.getLease(x, 1, 1, 1);
        Check.getLease(x, 2, 1, 1);
        x.crash(3);
        x.restart(3);
        Check.getLease(x, 0, 0, 2);
        CHECK.due("a claim goes on: no write is lost", x.dirty(0), 1);
        CHECK.due("no mark", x.lease(0, 0), 2);
        Check.getLease(x, 1, 1, 1);
        Check.getLease(x, 2, 1, 1);
        CHECK.due("claims for reading", x.held(1, 1) + x.held(2, 1), 2040);
        x.acquire(1, 1, 2);
        x.deliver(0);
        CHECK.due("no claim: it waits", x.waiting(1), 1);
        CHECK.due("and recalls", x.message(0), 8210000);
        x.acquire(2, 1, 1);
        x.deliver(1);
        CHECK.due("a claim of a holder while another waits is refused", x.message(1), 5210003);
    }
}
