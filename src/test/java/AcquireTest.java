/** Promise 2. */
public final class AcquireTest {
    private static final Check CHECK = new Check("AcquireTest");

    public static void main(String[] args) {
        numbersAndCodes();
        wrongInputs();
        modeIsRaisedByAValidLeaseForWriting();
        modeIsRaisedByADirtyWrite();
        claimNeedsAValidLeaseOfThatMode();
        lostMarkComesBeforeAllButNone();
        CHECK.end();
    }

    private static void numbersAndCodes() {
        LeasedPages x = new LeasedPages(20);
        CHECK.due("first of 2", x.acquire(2, 3, 1), 1);
        CHECK.due("its code", x.message(0), 1230001);
        CHECK.due("with an open request", x.acquire(2, 0, 1), -1);
        CHECK.due("no more messages", x.messages(), 1);
        CHECK.due("first of 1", x.acquire(1, 2, 2), 1);
        CHECK.due("its code", x.message(1), 1120001);
        x.deliver(0);
        x.deliver(1);
        CHECK.due("second of 2", x.acquire(2, 0, 2), 2);
        CHECK.due("its code", x.message(x.messages() - 1), 1200002);
    }

    private static void wrongInputs() {
        LeasedPages x = new LeasedPages(20);
        for (int wrong : Check.outside(3)) {
            CHECK.due("client " + wrong, x.acquire(wrong, 0, 1), -1);
        }
        for (int wrong : Check.outside(4)) {
            CHECK.due("file " + wrong, x.acquire(0, wrong, 1), -1);
        }
        for (int wrong : new int[] {0, 3, -1, Integer.MIN_VALUE, Integer.MAX_VALUE}) {
            CHECK.due("mode " + wrong, x.acquire(0, 0, wrong), -1);
        }
        x.crash(0);
        CHECK.due("down", x.acquire(0, 0, 1), -1);
        CHECK.due("nothing was sent", x.messages(), 0);
        x.restart(0);
        CHECK.due("no number was used up", x.acquire(0, 0, 1), 1);
    }

    private static void modeIsRaisedByAValidLeaseForWriting() {
        LeasedPages x = new LeasedPages(12);
        Check.getLease(x, 0, 0, 2);
        Check.getLease(x, 0, 0, 1);
        CHECK.due("asked for reading with a valid lease for writing", x.held(0, 0), 2012);
        x.tick(0, 4);
        CHECK.due("a wrong mode is refused all the same", x.acquire(0, 0, 0), -1);
        Check.getLease(x, 0, 0, 1);
        CHECK.due("asked for reading when it is not valid any more", x.held(0, 0), 1012);
        CHECK.due("lease", x.lease(0, 0), 1);
    }

    private static void modeIsRaisedByADirtyWrite() {
        LeasedPages x = new LeasedPages(12);
        Check.getLease(x, 0, 0, 2);
        x.write(0, 0, 0, 5);
        x.tick(0, 4);
        Check.getLease(x, 0, 1, 1);
        CHECK.due("a dirty write to another file does not raise it", x.held(0, 1), 1012);
        Check.getLease(x, 0, 0, 1);
        CHECK.due("a dirty write to this file raises it", x.held(0, 0), 2012);
    }

    /** In grace exactly the claims are granted. */
    private static void claimNeedsAValidLeaseOfThatMode() {
        for (int had = 0; had <= 2; had++) {
            for (int asked = 1; asked <= 2; asked++) {
                claimOf(had, asked, 3, had >= asked);
                claimOf(had, asked, 4, false);
            }
        }
    }

    private static void claimOf(int had, int asked, int ticks, boolean claim) {
        LeasedPages x = new LeasedPages(12);
        if (had > 0) {
            Check.getLease(x, 0, 0, had);
        }
        x.crash(3);
        x.restart(3);
        x.tick(0, ticks);
        x.acquire(0, 0, asked);
        x.deliver(0);
        String what = "had " + had + ", asked " + asked + " after " + ticks;
        CHECK.due(what + ": granted", x.held(0, 0), claim ? 1000 * Math.max(had, asked) + 12 : 0);
        CHECK.due(what + ": waits", x.waiting(0), claim ? 0 : 1);
    }

    private static void lostMarkComesBeforeAllButNone() {
        LeasedPages x = new LeasedPages(12);
        ClientTermsTest.loseWrites(x, 0, 1);
        CHECK.due("marked", x.lease(0, 1) / 100, 1);
        CHECK.due("wrong mode first", x.acquire(0, 1, 3), -1);
        CHECK.due("another file is not marked", x.acquire(0, 2, 1), 4);
        CHECK.due("open request first", x.acquire(0, 1, 1), -1);
        Check.deliverLast(x);
        Check.deliverLast(x);
        int before = x.messages();
        CHECK.due("LOST", x.acquire(0, 1, 1), -3);
        CHECK.due("nothing is sent", x.messages(), before);
        CHECK.due("nothing is open", x.retry(0), -1);
        CHECK.due("the mark is gone", x.lease(0, 1) / 100, 0);
        CHECK.due("then it asks", x.acquire(0, 1, 1), 5);
    }
}
