/** A LEASE request of client 0 on file 0 arrives: granted, refused or put in the line, for each state of the file. */
public final class LeaseTableTest {
    private static final Check CHECK = new Check("LeaseTableTest");

    private static final int GRANTED = 4;
    private static final int REFUSED = 5;
    private static final int WAITS = 0;

    /** Out of grace: own mode, mode of client 1, mode for which client 2 waits, mode asked for; outcome, recalls. */
    private static final int[][] ORDINARY = {
        {0, 0, 0, 1, GRANTED, 0}, {0, 0, 0, 2, GRANTED, 0},
        {0, 1, 0, 1, GRANTED, 0}, {0, 1, 0, 2, WAITS, 1},
        {0, 2, 0, 1, WAITS, 1}, {0, 2, 0, 2, WAITS, 1},
        {1, 0, 0, 1, GRANTED, 0}, {1, 0, 0, 2, GRANTED, 0},
        {1, 1, 0, 1, GRANTED, 0}, {1, 1, 0, 2, WAITS, 1},
        {2, 0, 0, 1, GRANTED, 0}, {2, 0, 0, 2, GRANTED, 0},
        {0, 1, 2, 1, WAITS, 0}, {0, 1, 2, 2, WAITS, 1},
        {0, 2, 1, 1, WAITS, 1}, {0, 2, 1, 2, WAITS, 1},
        {0, 2, 2, 1, WAITS, 1}, {0, 2, 2, 2, WAITS, 1},
        {1, 0, 2, 1, REFUSED, 0}, {1, 0, 2, 2, REFUSED, 0},
        {1, 1, 2, 1, REFUSED, 0}, {1, 1, 2, 2, REFUSED, 0},
        {2, 0, 1, 1, REFUSED, 0}, {2, 0, 1, 2, REFUSED, 0},
        {2, 0, 2, 1, REFUSED, 0}, {2, 0, 2, 2, REFUSED, 0}};

    /** In grace: mode that client 0 can claim, mode that client 1 has claimed, mode asked for; outcome, recalls. */
    private static final int[][] GRACE = {
        {0, 0, 1, WAITS, 0}, {0, 0, 2, WAITS, 0},
        {0, 1, 1, WAITS, 0}, {0, 1, 2, WAITS, 1},
        {0, 2, 1, WAITS, 1}, {0, 2, 2, WAITS, 1},
        {1, 0, 1, GRANTED, 0}, {1, 0, 2, WAITS, 0},
        {1, 1, 1, GRANTED, 0}, {1, 1, 2, WAITS, 1},
        {1, 2, 1, WAITS, 1}, {1, 2, 2, WAITS, 1},
        {2, 0, 1, GRANTED, 0}, {2, 0, 2, GRANTED, 0},
        {2, 1, 1, WAITS, 1}, {2, 1, 2, WAITS, 1},
        {2, 2, 1, WAITS, 1}, {2, 2, 2, WAITS, 1}};

    public static void main(String[] args) {
        for (int[] row : ORDINARY) {
            ordinary(row);
        }
        for (int[] row : GRACE) {
            grace(row, false);
            grace(row, true);
        }
        holderInGrace();
        holderAsksForMoreInGrace();
        storeInGrace();
        releaseInGrace();
        claimOutOfGraceIsLikeAnyOther();
        otherFilesDoNotCount();
        CHECK.end();
    }

    private static void ordinary(int[] row) {
        LeasedPages x = new LeasedPages(40);
        if (row[0] > 0) {
            Check.getLease(x, 0, 0, row[0]);
        }
        if (row[1] > 0) {
            Check.getLease(x, 1, 0, row[1]);
        }
        if (row[2] > 0) {
            x.acquire(2, 0, row[2]);
            x.deliver(0);
            Check.dropAll(x);
        }
        // A valid lease for writing would raise the mode.
        x.tick(0, 100);
        x.tick(3, 1);
        int before = row[2] > 0 ? 1 : 0;
        CHECK.due("waits before", x.waiting(0), before);
        x.acquire(0, 0, row[3]);
        x.deliver(0);
        String what = "own " + row[0] + ", other " + row[1] + ", waits " + row[2] + ", asked " + row[3];
        outcome(what, x, row[4], row[5], before);
        int kept = row[0] > 0 ? 1000 * row[0] + 39 : 0;
        CHECK.due(what + ": held", x.held(0, 0), row[4] == GRANTED ? 1000 * row[3] + 40 : kept);
        CHECK.due(what + ": the other's", x.held(1, 0), row[1] > 0 ? 1000 * row[1] + 39 : 0);
    }

    private static void outcome(String what, LeasedPages x, int outcome, int recalls, int waitedBefore) {
        CHECK.due(what + ": messages", x.messages(), outcome == WAITS ? recalls : 1);
        CHECK.due(what + ": waits", x.waiting(0), outcome == WAITS ? waitedBefore + 1 : waitedBefore);
        if (outcome != WAITS) {
            CHECK.due(what + ": reply", x.message(0) / 100000, 10 * outcome);
        } else if (recalls > 0) {
            CHECK.due(what + ": recall", x.message(0), 8100000);
        }
    }

    /** By their own clocks both clients can claim: the server let one lease run out before it gave the other. */
    private static void grace(int[] row, boolean anotherWaits) {
        LeasedPages x = new LeasedPages(40);
        if (row[0] > 0) {
            Check.getLease(x, 0, 0, row[0]);
        }
        x.tick(3, 40);
        if (row[1] > 0) {
            Check.getLease(x, 1, 0, row[1]);
        }
        x.crash(3);
        x.restart(3);
        if (row[1] > 0) {
            Check.getLease(x, 1, 0, row[1]);
            CHECK.due("claimed", x.held(1, 0), 1000 * row[1] + 40);
        }
        if (anotherWaits) {
            x.acquire(2, 0, 2);
            x.deliver(0);
            Check.dropAll(x);
        }
        x.acquire(0, 0, row[2]);
        x.deliver(0);
        String what = "grace, can claim " + row[0] + ", other " + row[1] + ", asked " + row[2] + ", " + anotherWaits;
        outcome(what, x, row[3], row[4], anotherWaits ? 1 : 0);
        int mode = Math.max(row[0], row[2]);
        CHECK.due(what + ": held", x.held(0, 0), row[3] == GRANTED ? 1000 * mode + 40 : 0);
    }

    /** In grace, client 0 has claimed its lease a tick ago, by its request 2. */
    private static LeasedPages claimed(int mode) {
        LeasedPages x = new LeasedPages(40);
        Check.getLease(x, 0, 0, mode);
        x.crash(3);
        x.restart(3);
        Check.getLease(x, 0, 0, mode);
        x.tick(3, 1);
        return x;
    }

    private static void holderInGrace() {
        for (int mode = 1; mode <= 2; mode++) {
            LeasedPages x = claimed(mode);
            Check.getLease(x, 0, 0, mode);
            CHECK.due("a claim by a holder", x.held(0, 0), 1000 * mode + 40);
            x.tick(3, 1);
            x.acquire(1, 0, 1);
            Check.deliverLast(x);
            CHECK.due("another waits", x.waiting(0), 1);
            Check.dropAll(x);
            x.acquire(0, 0, mode);
            x.deliver(0);
            CHECK.due("then the claim is refused", x.message(0), 5000004);
            CHECK.due("and the lease is as it was", x.held(0, 0), 1000 * mode + 39);
        }
    }

    private static void holderAsksForMoreInGrace() {
        LeasedPages x = claimed(1);
        x.acquire(0, 0, 2);
        x.deliver(0);
        CHECK.due("no claim: it waits, with nobody in the way", x.waiting(0), 1);
        CHECK.due("nor anybody to recall from", x.messages(), 0);
        CHECK.due("its lease for reading stays", x.held(0, 0), 1039);
        x.tick(3, 38);
        CHECK.due("the last tick of grace", x.held(0, 0), 1001);
        x.tick(3, 1);
        CHECK.due("granted", x.held(0, 0), 2040);
    }

    private static void storeInGrace() {
        LeasedPages x = claimed(2);
        x.write(0, 0, 0, 5);
        x.flush(0);
        x.deliver(0);
        CHECK.due("yes with a claimed lease", x.message(0), 6000003);
        CHECK.due("stored", x.stored(0, 0), 5);
    }

    private static void releaseInGrace() {
        LeasedPages x = claimed(2);
        x.acquire(1, 0, 1);
        x.deliver(0);
        Check.dropAll(x);
        x.close(0, 0);
        x.deliver(0);
        CHECK.due("yes", x.message(0), 6000003);
        CHECK.due("the lease is gone", x.held(0, 0), 0);
        CHECK.due("but the line does not go on", x.waiting(0), 1);
        CHECK.due("before grace is over", x.messages(), 1);
        x.tick(3, 38);
        CHECK.due("at its last tick", x.waiting(0), 1);
        x.tick(3, 1);
        CHECK.due("then it goes on", x.message(1), 4100001);
    }

    /** Client 0 knows a valid lease for reading, which the server has let run out. */
    private static void claimOutOfGraceIsLikeAnyOther() {
        LeasedPages x = new LeasedPages(40);
        Check.getLease(x, 0, 0, 1);
        x.tick(3, 40);
        Check.getLease(x, 1, 0, 1);
        x.acquire(2, 0, 2);
        x.deliver(0);
        Check.dropAll(x);
        CHECK.due("valid, so it is a claim", x.lease(0, 0), 1);
        x.acquire(0, 0, 1);
        x.deliver(0);
        CHECK.due("it waits behind the other one", x.waiting(0), 2);
        CHECK.due("and has no lease", x.held(0, 0), 0);
    }

    private static void otherFilesDoNotCount() {
        LeasedPages x = new LeasedPages(40);
        Check.getLease(x, 1, 1, 2);
        x.acquire(2, 1, 2);
        x.deliver(0);
        Check.dropAll(x);
        Check.getLease(x, 0, 0, 2);
        CHECK.due("a lease on another file", x.held(0, 0), 2040);
        Check.getLease(x, 0, 2, 2);
        Check.getLease(x, 0, 0, 2);
        CHECK.due("a line of another file", x.held(0, 0), 2040);
        Check.getLease(x, 1, 3, 1);
        CHECK.due("a holder there is a stranger here", x.held(1, 3), 1040);
    }
}
