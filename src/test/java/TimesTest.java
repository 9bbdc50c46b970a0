/** Times: the last tick at which something still holds, and the first at which it does not. */
public final class TimesTest {
    private static final Check CHECK = new Check("TimesTest");
    private static final int[] LENGTHS = {8, 9, 10, 11, 20, 21, 199, 200};

    public static void main(String[] args) {
        for (int length : LENGTHS) {
            clientLeaseIsValidWhileTheClockIsLess(length);
            termCountsFromTheFirstSending(length);
            serverLeaseGoesWhenItsEndIsNotGreater(length);
            renewedLeaseEndsLater(length);
            graceLastsLength(length);
            graceAfterEachRestart(length);
            claimAtTheEndOfGrace(length);
        }
        replyThatComesTooLate();
        clocksAreTheirOwn();
        ticksOneAfterTheOther();
        lengthsOutsideAreMovedIn();
        CHECK.end();
    }

    private static void ticks(LeasedPages x, int node, int count) {
        for (int left = count; left > 0; left -= 100) {
            x.tick(node, Math.min(left, 100));
        }
    }

    private static void clientLeaseIsValidWhileTheClockIsLess(int length) {
        String what = "length " + length;
        LeasedPages x = new LeasedPages(length);
        x.tick(0, 33);
        Check.getLease(x, 0, 2, 2);
        x.write(0, 2, 1, 6);
        ticks(x, 0, length / 2 - 2 - 1);
        CHECK.due(what + ": lease at the last tick", x.lease(0, 2), 2);
        CHECK.due(what + ": read", x.read(0, 2, 1, 0), 6);
        CHECK.due(what + ": whether", x.read(0, 2, 1, 1), 1);
        CHECK.due(what + ": write", x.write(0, 2, 1, 7), 2);
        CHECK.due(what + ": flush", x.flush(0), 2);
        x.deliver(0);
        x.deliver(0);
        x.tick(0, 1);
        CHECK.due(what + ": lease a tick later", x.lease(0, 2), 0);
        CHECK.due(what + ": read", x.read(0, 2, 1, 0), LeasedPages.NO_LEASE);
        CHECK.due(what + ": whether", x.read(0, 2, 1, 1), LeasedPages.NO_LEASE);
        CHECK.due(what + ": write", x.write(0, 2, 1, 8), LeasedPages.NO_LEASE);
        CHECK.due(what + ": flush", x.flush(0), LeasedPages.NO_LEASE);
        CHECK.due(what + ": the write stays", x.dirty(0), 1);
        CHECK.due(what + ": the server's lease stays", x.held(0, 2), 2000 + length);
    }

    private static void termCountsFromTheFirstSending(int length) {
        int term = length / 2 - 2;
        for (int late = term - 1; late <= term; late++) {
            String what = "length " + length + ", the reply after " + late;
            LeasedPages x = new LeasedPages(length);
            x.acquire(0, 0, 1);
            ticks(x, 0, late);
            x.drop(0);
            x.retry(0);
            x.deliver(0);
            x.deliver(0);
            CHECK.due(what + ": lease", x.lease(0, 0), late < term ? 1 : 0);
            CHECK.due(what + ": it has one to give back, valid or not", x.close(0, 0), 2);
        }
    }

    private static void serverLeaseGoesWhenItsEndIsNotGreater(int length) {
        String what = "length " + length;
        LeasedPages x = new LeasedPages(length);
        x.tick(3, 17);
        Check.getLease(x, 0, 0, 2);
        x.write(0, 0, 0, 4);
        x.write(0, 0, 0, 5);
        x.acquire(1, 0, 2);
        x.deliver(0);
        x.drop(0);
        ticks(x, 3, length - 1);
        CHECK.due(what + ": held at the last tick", x.held(0, 0), 2001);
        CHECK.due(what + ": the other waits", x.waiting(0), 1);
        x.flush(0);
        x.deliver(0);
        CHECK.due(what + ": a STORE at the last tick", x.message(0), 6000002);
        x.deliver(0);
        x.tick(3, 1);
        CHECK.due(what + ": held a tick later", x.held(0, 0), 0);
        CHECK.due(what + ": the other has it", x.held(1, 0), 2000 + length);
        CHECK.due(what + ": nobody waits", x.waiting(0), 0);
        x.drop(0);
        x.flush(0);
        x.deliver(0);
        CHECK.due(what + ": a STORE a tick later", x.message(0), 7000003);
        CHECK.due(what + ": stored", x.stored(0, 0), 4);
    }

    private static void renewedLeaseEndsLater(int length) {
        String what = "length " + length;
        LeasedPages x = new LeasedPages(length);
        Check.getLease(x, 0, 0, 2);
        ticks(x, 3, length - 1);
        Check.getLease(x, 0, 0, 2);
        CHECK.due(what + ": renewed at the last tick", x.held(0, 0), 2000 + length);
        ticks(x, 3, length - 1);
        CHECK.due(what + ": its last tick", x.held(0, 0), 2001);
        x.tick(3, 1);
        CHECK.due(what + ": over", x.held(0, 0), 0);
    }

    private static void graceLastsLength(int length) {
        String what = "length " + length;
        LeasedPages x = new LeasedPages(length);
        x.tick(3, 5);
        x.acquire(1, 0, 1);
        x.deliver(0);
        CHECK.due(what + ": none at first", x.message(0), 4100001);
        x.deliver(0);
        x.crash(3);
        x.restart(3);
        x.acquire(2, 0, 1);
        x.deliver(0);
        CHECK.due(what + ": grace at once", x.waiting(0), 1);
        ticks(x, 3, length - 1);
        CHECK.due(what + ": grace at the last tick", x.waiting(0), 1);
        x.acquire(0, 1, 2);
        x.deliver(0);
        CHECK.due(what + ": for a new request too", x.waiting(1), 1);
        x.tick(3, 1);
        CHECK.due(what + ": over, so granted", x.held(2, 0), 1000 + length);
        CHECK.due(what + ": the other file too", x.held(0, 1), 2000 + length);
        CHECK.due(what + ": file 0 first", x.message(0), 4200001);
        CHECK.due(what + ": then file 1", x.message(1), 4010001);
        x.deliver(1);
        Check.getLease(x, 0, 2, 2);
        CHECK.due(what + ": at once", x.held(0, 2), 2000 + length);
    }

    private static void graceAfterEachRestart(int length) {
        String what = "length " + length + ", second restart";
        LeasedPages x = new LeasedPages(length);
        x.crash(3);
        x.restart(3);
        ticks(x, 3, length - 1);
        x.crash(3);
        x.restart(3);
        x.acquire(0, 0, 1);
        x.deliver(0);
        x.tick(3, 1);
        CHECK.due(what + ": the first grace does not count", x.waiting(0), 1);
        ticks(x, 3, length - 2);
        CHECK.due(what + ": last tick", x.waiting(0), 1);
        x.tick(3, 1);
        CHECK.due(what + ": over", x.held(0, 0), 1000 + length);
    }

    private static void claimAtTheEndOfGrace(int length) {
        for (int ticks = length - 1; ticks <= length; ticks++) {
            String what = "length " + length + ", claim after " + ticks;
            LeasedPages x = new LeasedPages(length);
            Check.getLease(x, 0, 0, 2);
            x.write(0, 0, 3, 9);
            x.crash(3);
            x.restart(3);
            ticks(x, 3, ticks);
            Check.getLease(x, 0, 0, 2);
            CHECK.due(what + ": granted in any case", x.held(0, 0), 2000 + length);
            CHECK.due(what + ": continued in grace alone", x.dirty(0), ticks < length ? 1 : 0);
            CHECK.due(what + ": lost", x.lease(0, 0), ticks < length ? 2 : 102);
        }
    }

    private static void replyThatComesTooLate() {
        LeasedPages x = new LeasedPages(12);
        Check.getLease(x, 0, 0, 2);
        x.write(0, 0, 0, 3);
        x.acquire(0, 0, 2);
        x.tick(0, 4);
        x.deliver(0);
        x.deliver(0);
        CHECK.due("granted, but not valid", x.lease(0, 0), 0);
        CHECK.due("dirty", x.dirty(0), 1);
        CHECK.due("flush", x.flush(0), LeasedPages.NO_LEASE);
        CHECK.due("close: a dirty write is there", x.close(0, 0), LeasedPages.NONE);
        Check.getLease(x, 0, 0, 1);
        CHECK.due("asked again", x.lease(0, 0), 2);
    }

    private static void clocksAreTheirOwn() {
        LeasedPages x = new LeasedPages(12);
        Check.getLease(x, 0, 0, 1);
        Check.getLease(x, 1, 0, 1);
        x.tick(1, 100);
        CHECK.due("another client's ticks", x.lease(0, 0), 1);
        CHECK.due("its own ticks", x.lease(1, 0), 0);
        CHECK.due("clients' ticks at the server", x.held(1, 0), 1012);
        x.tick(3, 12);
        CHECK.due("the server's ticks at a client", x.lease(0, 0), 1);
        CHECK.due("and at the server", x.held(0, 0), 0);
        CHECK.due("clock 0", x.clock(0), 0);
        CHECK.due("clock 1", x.clock(1), 100);
        CHECK.due("clock 2", x.clock(2), 0);
        CHECK.due("clock 3", x.clock(3), 12);
    }

    /** In one call of 24 ticks the lease of 0 goes at 8, that of 1 at 16 and that of 2 at 24. */
    private static void ticksOneAfterTheOther() {
        for (int n = 23; n <= 24; n++) {
            LeasedPages x = new LeasedPages(8);
            Check.getLease(x, 0, 0, 2);
            x.acquire(1, 0, 2);
            Check.deliverLast(x);
            x.acquire(2, 0, 2);
            Check.deliverLast(x);
            Check.dropAll(x);
            CHECK.yes("tick", x.tick(3, n));
            CHECK.due("1 had it from 8 to 16", x.message(0), 4100001);
            CHECK.due("2 has it from 16 to 24", x.held(2, 0), n < 24 ? 2001 : 0);
            CHECK.due("two grants", x.messages(), 2);
        }
    }

    private static void lengthsOutsideAreMovedIn() {
        int[] given = {Integer.MIN_VALUE, -8, 0, 7, 8, 9, 199, 200, 201, Integer.MAX_VALUE};
        int[] due = {8, 8, 8, 8, 8, 9, 199, 200, 200, 200};
        for (int i = 0; i < given.length; i++) {
            LeasedPages x = new LeasedPages(given[i]);
            x.crash(3);
            x.restart(3);
            x.acquire(0, 0, 1);
            x.deliver(0);
            ticks(x, 3, due[i] - 1);
            CHECK.due("grace with length " + given[i], x.waiting(0), 1);
            x.tick(3, 1);
            CHECK.due("grace is over with length " + given[i], x.held(0, 0), 1000 + due[i]);
        }
    }
}
