/** Promises 5, 6 and 7. */
public final class FlushCloseRetryTest {
    private static final Check CHECK = new Check("FlushCloseRetryTest");

    public static void main(String[] args) {
        flushesInOrder();
        wrongFlushes();
        closeGivesBack();
        closeOfALeaseThatIsOver();
        wrongCloses();
        retrySendsTheSame();
        wrongRetries();
        CHECK.end();
    }

    private static void flushesInOrder() {
        LeasedPages x = new LeasedPages(40);
        Check.getLease(x, 1, 2, 2);
        Check.getLease(x, 1, 3, 2);
        x.write(1, 2, 0, 5);
        x.write(1, 3, 1, 6);
        x.write(1, 2, 0, 7);
        CHECK.due("number", x.flush(1), 3);
        CHECK.due("code", x.message(0), 2120003);
        CHECK.due("the write stays dirty", x.dirty(1), 3);
        x.deliver(0);
        CHECK.due("stored", x.stored(2, 0), 5);
        CHECK.due("reply", x.message(0), 6120003);
        CHECK.due("still open", x.flush(1), -1);
        x.deliver(0);
        CHECK.due("dirty", x.dirty(1), 2);
        CHECK.due("the next is of file 3", x.flush(1), 4);
        CHECK.due("code", x.message(0), 2130004);
        x.deliver(0);
        x.deliver(0);
        CHECK.due("stored", x.stored(3, 1), 6);
        Check.storeFirst(x, 1);
        CHECK.due("stored over the first", x.stored(2, 0), 7);
        CHECK.due("nothing left", x.flush(1), -1);
    }

    private static void wrongFlushes() {
        LeasedPages x = new LeasedPages(12);
        for (int wrong : Check.outside(3)) {
            CHECK.due("client " + wrong, x.flush(wrong), -1);
        }
        CHECK.due("no dirty write", x.flush(0), -1);
        Check.getLease(x, 0, 0, 2);
        x.write(0, 0, 0, 1);
        x.acquire(0, 1, 1);
        CHECK.due("open request", x.flush(0), -1);
        x.tick(0, 4);
        CHECK.due("NONE comes before NO_LEASE", x.flush(0), -1);
        Check.deliverLast(x);
        Check.deliverLast(x);
        CHECK.due("lease over", x.flush(0), -2);
        CHECK.due("nothing is open", x.retry(0), -1);
        CHECK.due("nothing is sent", x.messages(), 0);
        x.crash(0);
        CHECK.due("down", x.flush(0), -1);
        x.restart(0);
        CHECK.due("the write is forgotten", x.flush(0), -1);
    }

    private static void closeGivesBack() {
        LeasedPages x = new LeasedPages(20);
        Check.getLease(x, 0, 1, 2);
        Check.getLease(x, 0, 2, 2);
        x.acquire(1, 1, 1);
        x.deliver(0);
        x.deliver(0);
        CHECK.due("recalled", x.lease(0, 1), 12);
        CHECK.due("number", x.close(0, 1), 3);
        CHECK.due("code", x.message(0), 3010003);
        CHECK.due("lease and mark are gone at once", x.lease(0, 1), 0);
        CHECK.due("another file's lease stays", x.lease(0, 2), 2);
        CHECK.due("the server does not know yet", x.held(0, 1), 2020);
        CHECK.due("waits", x.waiting(1), 1);
        x.deliver(0);
        CHECK.due("the server knows", x.held(0, 1), 0);
        CHECK.due("another file's lease stays there too", x.held(0, 2), 2020);
        CHECK.due("yes", x.message(0), 6010003);
        CHECK.due("then the grant", x.message(1), 4110001);
        x.deliver(0);
        CHECK.due("open no more, no lease", x.close(0, 1), -2);
    }

    private static void closeOfALeaseThatIsOver() {
        LeasedPages x = new LeasedPages(8);
        Check.getLease(x, 0, 0, 1);
        x.tick(0, 50);
        x.tick(3, 50);
        CHECK.due("valid no more", x.lease(0, 0), 0);
        CHECK.due("close", x.close(0, 0), 2);
        x.deliver(0);
        CHECK.due("yes, though the server knows of none", x.message(0), 6000002);
    }

    private static void wrongCloses() {
        LeasedPages x = new LeasedPages(20);
        for (int wrong : Check.outside(3)) {
            CHECK.due("client " + wrong, x.close(wrong, 0), -1);
        }
        for (int wrong : Check.outside(4)) {
            CHECK.due("file " + wrong, x.close(0, wrong), -1);
        }
        CHECK.due("no lease", x.close(0, 0), -2);
        x.acquire(0, 0, 2);
        CHECK.due("open request comes before NO_LEASE", x.close(0, 0), -1);
        x.deliver(0);
        x.deliver(0);
        Check.getLease(x, 0, 1, 2);
        x.write(0, 0, 0, 1);
        CHECK.due("dirty write", x.close(0, 0), -1);
        CHECK.due("the lease stays", x.lease(0, 0), 2);
        CHECK.due("a dirty write to another file does not hinder", x.close(0, 1), 3);
        x.crash(0);
        CHECK.due("down", x.close(0, 0), -1);

        LeasedPages y = new LeasedPages(20);
        ClientTermsTest.loseWrites(y, 0, 0);
        CHECK.due("LOST", y.close(0, 0), -3);
        CHECK.due("nothing is sent", y.messages(), 0);
        CHECK.due("the lease stays, the mark is gone", y.lease(0, 0), 2);
        CHECK.due("then it closes", y.close(0, 0), 4);
    }

    private static void retrySendsTheSame() {
        LeasedPages x = new LeasedPages(12);
        x.acquire(0, 1, 2);
        x.drop(0);
        x.tick(0, 3);
        CHECK.due("number", x.retry(0), 1);
        CHECK.due("code", x.message(0), 1010001);
        CHECK.due("again", x.retry(0), 1);
        CHECK.due("two", x.messages(), 2);
        x.deliver(0);
        x.deliver(1);
        CHECK.due("mode", x.held(0, 1), 2012);
        CHECK.due("valid since it was first sent", x.lease(0, 1), 2);
        x.tick(0, 1);
        CHECK.due("which is 4 ago", x.lease(0, 1), 0);
        CHECK.due("none is open", x.retry(0), -1);
        x.tick(0, 20);
        Check.dropAll(x);
        CHECK.due("close", x.close(0, 1), 2);
        x.drop(0);
        CHECK.due("retry of a release", x.retry(0), 2);
        CHECK.due("code", x.message(0), 3010002);
    }

    private static void wrongRetries() {
        LeasedPages x = new LeasedPages(12);
        for (int wrong : Check.outside(3)) {
            CHECK.due("client " + wrong, x.retry(wrong), -1);
        }
        CHECK.due("none open", x.retry(0), -1);
        x.acquire(0, 0, 1);
        x.crash(0);
        CHECK.due("down", x.retry(0), -1);
        x.restart(0);
        CHECK.due("forgotten", x.retry(0), -1);
        CHECK.due("one message", x.messages(), 1);
    }
}
