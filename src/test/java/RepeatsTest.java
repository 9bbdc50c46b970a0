/** Requests that come again, late, or not at all: numbers below, at and above the done one, and those that wait. */
public final class RepeatsTest {
    private static final Check CHECK = new Check("RepeatsTest");

    public static void main(String[] args) {
        belowTheDoneOneNothingHappens();
        theDoneOneGetsItsReplyAgain();
        aRepeatedStoreDoesNotStoreAgain();
        aRepeatedGrantSaysWhatItSaid();
        aRepeatedReplyLeavesTheLineAlone();
        whatIsDoneIsKeptOverACrash();
        anUndoneRequestIsTakenAfterACrash();
        numbersMayBeLeftOut();
        numbersGoOnAfterACrashOfTheClient();
        refusedCallsUseUpNoNumber();
        aWaitingRequestKeepsItsPlace();
        anotherRequestGoesToTheEnd();
        takenOutOfAnyLine();
        takingOutLetsTheNextOneIn();
        oneArrivalForTwoLines();
        eachClientHasNumbersOfItsOwn();
        CHECK.end();
    }

    /** The message sent last arrives, and one like it stays under way in its place. */
    private static void twice(LeasedPages x) {
        int last = x.messages() - 1;
        x.duplicate(last);
        x.deliver(last);
    }

    private static void belowTheDoneOneNothingHappens() {
        LeasedPages x = new LeasedPages(40);
        x.acquire(0, 0, 2);
        twice(x);
        x.deliver(1);
        x.write(0, 0, 1, 5);
        x.write(0, 0, 1, 6);
        x.flush(0);
        twice(x);
        x.deliver(2);
        Check.storeFirst(x, 0);
        CHECK.due("stored by request 3", x.stored(0, 1), 6);
        x.deliver(1);
        CHECK.due("STORE 2 when 3 is done", x.stored(0, 1), 6);
        x.close(0, 0);
        twice(x);
        x.deliver(2);
        x.deliver(0);
        CHECK.due("LEASE 1 when 4 is done", x.held(0, 0), 0);
        Check.getLease(x, 0, 0, 1);
        CHECK.due("RELEASE 4 is under way", x.message(0), 3000004);
        x.deliver(0);
        CHECK.due("RELEASE 4 when 5 is done", x.held(0, 0), 1040);
        CHECK.due("no reply to any of them", x.messages(), 0);
    }

    private static void theDoneOneGetsItsReplyAgain() {
        LeasedPages x = new LeasedPages(40);
        x.acquire(0, 0, 2);
        repeated("granted", x, 4000001);
        x.write(0, 0, 0, 5);
        x.flush(0);
        repeated("stored", x, 6000002);
        x.acquire(1, 0, 1);
        x.deliver(0);
        x.drop(0);
        x.acquire(0, 0, 2);
        repeated("refused", x, 5000003);
        x.close(0, 0);
        x.deliver(0);
        x.drop(1);
        x.retry(0);
        x.deliver(1);
        CHECK.due("released: the reply", x.message(0), 6000004);
        CHECK.due("released: the reply again", x.message(1), 6000004);

        LeasedPages y = new LeasedPages(40);
        Check.getLease(y, 2, 3, 2);
        y.write(2, 3, 0, 5);
        y.tick(3, 40);
        y.flush(2);
        repeated("not stored", y, 7230002);
    }

    /** The one message under way arrives three times; then one of the replies arrives, and the others go. */
    private static void repeated(String what, LeasedPages x, int code) {
        x.duplicate(0);
        x.duplicate(0);
        for (int i = 1; i <= 3; i++) {
            x.deliver(0);
            CHECK.due(what + ": messages after arrival " + i, x.messages(), 3);
            CHECK.due(what + ": reply " + i, x.message(2), code);
        }
        x.deliver(2);
        Check.dropAll(x);
    }

    private static void aRepeatedStoreDoesNotStoreAgain() {
        LeasedPages x = new LeasedPages(20);
        Check.getLease(x, 0, 0, 2);
        x.write(0, 0, 0, 5);
        x.flush(0);
        twice(x);
        x.drop(1);
        x.tick(3, 20);
        Check.getLease(x, 1, 0, 2);
        x.write(1, 0, 0, 9);
        Check.storeFirst(x, 1);
        CHECK.due("client 1 stored", x.stored(0, 0), 9);
        x.deliver(0);
        CHECK.due("yes as before, though it has no lease now", x.message(0), 6000002);
        CHECK.due("but the page stays", x.stored(0, 0), 9);
        x.deliver(0);
        CHECK.due("the write is dirty no more", x.dirty(0), 0);
        CHECK.due("and not lost", x.lease(0, 0), 2);
    }

    private static void aRepeatedGrantSaysWhatItSaid() {
        LeasedPages x = new LeasedPages(40);
        Check.getLease(x, 0, 0, 2);
        x.write(0, 0, 0, 5);
        x.tick(3, 40);
        x.acquire(0, 0, 2);
        x.deliver(0);
        x.drop(0);
        x.retry(0);
        x.deliver(0);
        CHECK.due("again", x.message(0), 4000002);
        CHECK.due("the lease is no longer by that", x.held(0, 0), 2040);
        x.tick(3, 1);
        x.retry(0);
        x.deliver(1);
        CHECK.due("nor a tick later", x.held(0, 0), 2039);
        x.deliver(1);
        CHECK.due("not continued, though it has a lease by now", x.lease(0, 0), 102);
        CHECK.due("so the write is lost", x.dirty(0), 0);
    }

    private static void aRepeatedReplyLeavesTheLineAlone() {
        LeasedPages x = new LeasedPages(40);
        Check.getLease(x, 0, 0, 2);
        Check.getLease(x, 1, 1, 1);
        x.close(1, 1);
        twice(x);
        x.deliver(1);
        x.acquire(1, 0, 1);
        x.deliver(1);
        x.drop(1);
        CHECK.due("request 3 waits", x.waiting(0), 1);
        CHECK.yes("RELEASE 2 once more", x.deliver(0));
        CHECK.due("its reply", x.message(0), 6110002);
        CHECK.due("3 waits yet", x.waiting(0), 1);
        x.deliver(0);
        CHECK.due("3 is open yet", x.retry(1), 3);
    }

    private static void whatIsDoneIsKeptOverACrash() {
        LeasedPages x = new LeasedPages(20);
        Check.getLease(x, 0, 0, 2);
        x.write(0, 0, 2, 7);
        x.flush(0);
        twice(x);
        x.drop(1);
        x.crash(3);
        x.restart(3);
        CHECK.due("the page is kept", x.stored(0, 2), 7);
        x.deliver(0);
        CHECK.due("STORE 2 gets yes once more", x.message(0), 6000002);
        x.deliver(0);
        CHECK.due("dirty", x.dirty(0), 0);

        LeasedPages y = new LeasedPages(20);
        y.acquire(0, 0, 2);
        twice(y);
        y.deliver(1);
        Check.getLease(y, 0, 1, 2);
        y.crash(3);
        y.restart(3);
        y.deliver(0);
        CHECK.due("LEASE 1 is below the done one", y.messages() + y.waiting(0), 0);

        LeasedPages z = new LeasedPages(20);
        z.acquire(0, 0, 1);
        z.deliver(0);
        z.drop(0);
        z.crash(3);
        z.restart(3);
        z.retry(0);
        z.deliver(0);
        CHECK.due("LEASE 1 was granted before", z.message(0), 4000001);
        CHECK.due("but the lease is forgotten", z.held(0, 0), 0);
    }

    private static void anUndoneRequestIsTakenAfterACrash() {
        LeasedPages x = new LeasedPages(20);
        Check.getLease(x, 0, 0, 2);
        x.acquire(1, 0, 1);
        twice(x);
        x.drop(1);
        x.crash(3);
        x.restart(3);
        CHECK.due("it waits no more", x.waiting(0), 0);
        x.deliver(0);
        CHECK.due("it waits anew", x.waiting(0), 1);
        CHECK.due("there is nobody to recall from", x.messages(), 0);
        x.tick(3, 20);
        CHECK.due("granted when grace is over", x.message(0), 4100001);
    }

    private static void numbersMayBeLeftOut() {
        LeasedPages x = new LeasedPages(20);
        for (int i = 1; i <= 3; i++) {
            CHECK.due("number", x.acquire(2, 0, 1), i);
            x.crash(2);
            x.restart(2);
        }
        x.deliver(2);
        CHECK.due("the first that arrives is 3", x.message(2), 4200003);
        x.deliver(0);
        x.deliver(0);
        CHECK.due("1 and 2 are below it", x.messages(), 1);
        x.deliver(0);
        CHECK.due("nobody waits for the reply", x.lease(2, 0), 0);
    }

    private static void numbersGoOnAfterACrashOfTheClient() {
        LeasedPages x = new LeasedPages(20);
        Check.getLease(x, 1, 0, 1);
        x.tick(1, 3);
        x.crash(1);
        x.restart(1);
        CHECK.due("number", x.acquire(1, 0, 1), 2);
        CHECK.due("code", x.message(0), 1100002);
        CHECK.due("its clock is kept", x.clock(1), 3);
        x.deliver(0);
        x.deliver(0);
        x.tick(1, 7);
        CHECK.due("valid until 3 + TERM", x.lease(1, 0), 1);
        x.tick(1, 1);
        CHECK.due("which is 11", x.lease(1, 0), 0);
    }

    private static void refusedCallsUseUpNoNumber() {
        LeasedPages x = new LeasedPages(20);
        x.acquire(0, 0, 3);
        x.acquire(0, 4, 1);
        x.flush(0);
        x.close(0, 0);
        CHECK.due("first", x.acquire(0, 0, 2), 1);
        x.acquire(0, 0, 2);
        x.retry(0);
        x.retry(0);
        Check.deliverLast(x);
        Check.deliverLast(x);
        CHECK.due("no dirty write", x.flush(0), LeasedPages.NONE);
        CHECK.due("no lease", x.close(0, 1), LeasedPages.NO_LEASE);
        CHECK.due("second", x.close(0, 0), 2);
    }

    /** Client 0 writes file 0; 1 and 2 wait in this order, and 1's request is under way once more. */
    private static LeasedPages twoWait() {
        LeasedPages x = new LeasedPages(20);
        Check.getLease(x, 0, 0, 2);
        x.acquire(1, 0, 2);
        twice(x);
        x.acquire(2, 0, 2);
        Check.deliverLast(x);
        while (x.messages() > 1) {
            x.drop(1);
        }
        return x;
    }

    private static void aWaitingRequestKeepsItsPlace() {
        LeasedPages x = twoWait();
        CHECK.due("1's request", x.message(0), 1100001);
        x.deliver(0);
        CHECK.due("two wait", x.waiting(0), 2);
        CHECK.due("no second recall", x.messages(), 0);
        x.tick(3, 20);
        CHECK.due("1 is the first", x.held(1, 0), 2020);
        CHECK.due("one waits", x.waiting(0), 1);
    }

    private static void anotherRequestGoesToTheEnd() {
        LeasedPages x = twoWait();
        x.drop(0);
        x.crash(1);
        x.restart(1);
        CHECK.due("request 2 of client 1", x.acquire(1, 0, 2), 2);
        x.deliver(0);
        CHECK.due("two wait", x.waiting(0), 2);
        CHECK.due("a recall", x.message(0), 8000000);
        x.drop(0);
        x.tick(3, 20);
        CHECK.due("2 is the first now", x.message(0), 4200001);
        x.tick(3, 20);
        CHECK.due("then 1, with its later request", x.message(1), 4100002);
    }

    private static void takenOutOfAnyLine() {
        for (int f = 0; f < 4; f++) {
            LeasedPages x = new LeasedPages(20);
            Check.getLease(x, 0, f, 2);
            x.acquire(1, f, 1);
            x.deliver(0);
            x.drop(0);
            CHECK.due("waits for file " + f, x.waiting(f), 1);
            x.crash(1);
            x.restart(1);
            x.acquire(1, 3 - f, 1);
            x.deliver(0);
            CHECK.due("taken out of the line of file " + f, x.waiting(f), 0);
            CHECK.due("the later request is granted", x.message(0), 4100002 + 10000 * (3 - f));
            x.tick(3, 20);
            CHECK.due("the older one never is", x.held(1, f), 0);
        }
    }

    private static void takingOutLetsTheNextOneIn() {
        LeasedPages x = new LeasedPages(20);
        Check.getLease(x, 0, 0, 1);
        x.acquire(1, 0, 2);
        Check.deliverLast(x);
        x.acquire(2, 0, 1);
        Check.deliverLast(x);
        Check.dropAll(x);
        CHECK.due("the reader waits behind the writer", x.waiting(0), 2);
        x.crash(1);
        x.restart(1);
        x.acquire(1, 3, 2);
        x.deliver(0);
        CHECK.due("the reply to the new request", x.message(0), 4130002);
        CHECK.due("then the reader's grant", x.message(1), 4200001);
        CHECK.due("nobody waits", x.waiting(0), 0);
    }

    /** A late RELEASE of file 3 also takes a request out of the line of file 0: both lines can go on. */
    private static void oneArrivalForTwoLines() {
        LeasedPages x = new LeasedPages(40);
        Check.getLease(x, 2, 0, 1);
        Check.getLease(x, 1, 3, 2);
        x.close(1, 3);
        x.acquire(2, 3, 1);
        x.deliver(1);
        x.crash(1);
        x.restart(1);
        x.acquire(1, 0, 2);
        Check.deliverLast(x);
        x.acquire(0, 0, 1);
        Check.deliverLast(x);
        while (x.messages() > 1) {
            x.drop(1);
        }
        CHECK.due("two wait for file 0", x.waiting(0), 2);
        CHECK.due("one waits for file 3", x.waiting(3), 1);
        x.deliver(0);
        CHECK.due("the reply", x.message(0), 6130002);
        CHECK.due("then file 0", x.message(1), 4000001);
        CHECK.due("then file 3", x.message(2), 4230002);
        CHECK.due("nobody waits", x.waiting(0) + x.waiting(3), 0);
    }

    private static void eachClientHasNumbersOfItsOwn() {
        LeasedPages x = new LeasedPages(20);
        Check.getLease(x, 0, 0, 1);
        Check.getLease(x, 0, 0, 1);
        CHECK.due("first of 1", x.acquire(1, 0, 1), 1);
        x.deliver(0);
        CHECK.due("1 is not below the 2 that client 0 has done", x.message(0), 4100001);
    }
}
