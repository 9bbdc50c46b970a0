/**
 * "The first of these that holds": calls for which two reasons to be refused hold at once. Where no test stands for a
 * pair, no run of calls leads to it: a crash forgets the mark LOST and the writes, and a marked file has no dirty one.
 */
public final class RefusalOrderTest {
    private static final Check CHECK = new Check("RefusalOrderTest");

    private static final int NONE = -1;
    private static final int NO_LEASE = -2;
    private static final int LOST = -3;
    private static final int FULL = -4;

    public static void main(String[] args) {
        acquireNoneThenLost();
        readNoneThenLost();
        readNoneThenNoLease();
        readLostThenNoLease();
        writeNoneThenLost();
        writeNoneThenNoLease();
        writeNoneThenFull();
        writeLostThenNoLease();
        writeLostThenFull();
        writeNoLeaseThenFull();
        flushNoneThenNoLease();
        closeNoneThenLost();
        closeNoneThenNoLease();
        closeLostThenNoLease();
        CHECK.end();
    }

    /** Client 0 has a valid lease on file 0, which is marked LOST; its next request is 3. */
    private static LeasedPages lostWithALease() {
        LeasedPages x = new LeasedPages(40);
        Check.getLease(x, 0, 0, 2);
        x.write(0, 0, 0, 5);
        x.tick(3, 40);
        Check.getLease(x, 0, 0, 2);
        CHECK.due("marked", x.lease(0, 0), 102);
        return x;
    }

    /** Client 0 has no lease on file 0, which is marked LOST; its next request is 3. */
    private static LeasedPages lostWithoutALease() {
        LeasedPages x = new LeasedPages(40);
        Check.getLease(x, 0, 0, 2);
        x.write(0, 0, 0, 5);
        x.tick(3, 40);
        Check.storeFirst(x, 0);
        CHECK.due("marked", x.lease(0, 0), 100);
        return x;
    }

    /** Client 0 has six dirty writes to file 1 besides. */
    private static void fillWith(LeasedPages x) {
        Check.getLease(x, 0, 1, 2);
        for (int i = 0; i < 6; i++) {
            x.write(0, 1, 0, i);
        }
        CHECK.due("six", x.dirty(0), 6);
    }

    private static void acquireNoneThenLost() {
        LeasedPages x = lostWithALease();
        CHECK.due("mode 0", x.acquire(0, 0, 0), NONE);
        CHECK.due("mode 3", x.acquire(0, 0, 3), NONE);
        x.acquire(0, 1, 1);
        CHECK.due("an open request", x.acquire(0, 0, 1), NONE);
        CHECK.due("the mark stays", x.lease(0, 0), 102);
        Check.deliverLast(x);
        Check.deliverLast(x);
        CHECK.due("LOST", x.acquire(0, 0, 1), LOST);
        CHECK.due("the mark goes", x.lease(0, 0), 2);
        CHECK.due("nothing is sent", x.messages(), 0);
        CHECK.due("nothing is open, no number is used", x.acquire(0, 0, 1), 4);
    }

    private static void readNoneThenLost() {
        LeasedPages x = lostWithALease();
        CHECK.due("page -1", x.read(0, 0, -1, 0), NONE);
        CHECK.due("page 4", x.read(0, 0, 4, 0), NONE);
        CHECK.due("how -1", x.read(0, 0, 0, -1), NONE);
        CHECK.due("how 2", x.read(0, 0, 0, 2), NONE);
        CHECK.due("the mark stays", x.lease(0, 0), 102);
        CHECK.due("whether", x.read(0, 0, 0, 1), LOST);
        CHECK.due("the mark stays with how = 1", x.lease(0, 0), 102);
        CHECK.due("LOST", x.read(0, 0, 0, 0), LOST);
        CHECK.due("the mark goes with how = 0", x.lease(0, 0), 2);
        CHECK.due("then it reads", x.read(0, 0, 0, 0), 0);
    }

    private static void readNoneThenNoLease() {
        LeasedPages x = new LeasedPages(40);
        CHECK.due("page -1", x.read(0, 0, -1, 0), NONE);
        CHECK.due("page 4", x.read(0, 0, 4, 1), NONE);
        CHECK.due("how -1", x.read(0, 0, 0, -1), NONE);
        CHECK.due("how 2", x.read(0, 0, 0, 2), NONE);
        CHECK.due("how 0", x.read(0, 0, 0, 0), NO_LEASE);
        CHECK.due("how 1", x.read(0, 0, 0, 1), NO_LEASE);
        x.crash(0);
        CHECK.due("down", x.read(0, 0, 0, 0), NONE);
    }

    private static void readLostThenNoLease() {
        LeasedPages x = lostWithoutALease();
        CHECK.due("whether", x.read(0, 0, 0, 1), LOST);
        CHECK.due("whether", x.read(0, 0, 0, 1), LOST);
        CHECK.due("first", x.read(0, 0, 0, 0), LOST);
        CHECK.due("then", x.read(0, 0, 0, 0), NO_LEASE);
        CHECK.due("whether", x.read(0, 0, 0, 1), NO_LEASE);
        LeasedPages y = lostWithALease();
        y.tick(0, 18);
        CHECK.due("not valid any more: first", y.read(0, 0, 3, 0), LOST);
        CHECK.due("not valid any more: then", y.read(0, 0, 3, 0), NO_LEASE);
    }

    private static void writeNoneThenLost() {
        LeasedPages x = lostWithALease();
        CHECK.due("page -1", x.write(0, 0, -1, 1), NONE);
        CHECK.due("page 4", x.write(0, 0, 4, 1), NONE);
        CHECK.due("the mark stays", x.lease(0, 0), 102);
        CHECK.due("LOST", x.write(0, 0, 3, 1), LOST);
        CHECK.due("the mark goes", x.lease(0, 0), 2);
        CHECK.due("nothing is written", x.read(0, 0, 3, 0), 0);
        CHECK.due("nothing is dirty", x.dirty(0), 0);
        CHECK.due("then it writes", x.write(0, 0, 3, 1), 1);
    }

    private static void writeNoneThenNoLease() {
        LeasedPages x = new LeasedPages(40);
        CHECK.due("page -1", x.write(0, 0, -1, 1), NONE);
        CHECK.due("page 4", x.write(0, 0, 4, 1), NONE);
        CHECK.due("no lease", x.write(0, 0, 3, 1), NO_LEASE);
        x.crash(0);
        CHECK.due("down", x.write(0, 0, 3, 1), NONE);
    }

    private static void writeNoneThenFull() {
        LeasedPages x = new LeasedPages(40);
        fillWith(x);
        CHECK.due("page -1", x.write(0, 1, -1, 1), NONE);
        CHECK.due("page 4", x.write(0, 1, 4, 1), NONE);
        CHECK.due("file 4", x.write(0, 4, 0, 1), NONE);
        CHECK.due("full", x.write(0, 1, 3, 1), FULL);
        CHECK.due("six", x.dirty(0), 6);
    }

    private static void writeLostThenNoLease() {
        LeasedPages x = lostWithoutALease();
        CHECK.due("first", x.write(0, 0, 0, 1), LOST);
        CHECK.due("then", x.write(0, 0, 0, 1), NO_LEASE);
    }

    private static void writeLostThenFull() {
        LeasedPages x = lostWithALease();
        fillWith(x);
        CHECK.due("first", x.write(0, 0, 0, 1), LOST);
        CHECK.due("the mark goes", x.lease(0, 0), 2);
        CHECK.due("then", x.write(0, 0, 0, 1), FULL);
    }

    private static void writeNoLeaseThenFull() {
        LeasedPages x = new LeasedPages(40);
        Check.getLease(x, 0, 2, 1);
        fillWith(x);
        CHECK.due("no lease", x.write(0, 0, 0, 1), NO_LEASE);
        CHECK.due("for reading", x.write(0, 2, 0, 1), NO_LEASE);
        x.tick(0, 17);
        CHECK.due("valid", x.write(0, 1, 0, 1), FULL);
        x.tick(0, 1);
        CHECK.due("not valid any more", x.write(0, 1, 0, 1), NO_LEASE);
        CHECK.due("six", x.dirty(0), 6);
    }

    private static void flushNoneThenNoLease() {
        LeasedPages x = new LeasedPages(40);
        CHECK.due("no write and no lease", x.flush(0), NONE);
        Check.getLease(x, 0, 0, 2);
        x.write(0, 0, 0, 1);
        x.tick(0, 10);
        Check.getLease(x, 0, 1, 2);
        x.write(0, 1, 0, 2);
        x.acquire(0, 2, 1);
        x.tick(0, 8);
        CHECK.due("an open request, and the first write's lease is over", x.flush(0), NONE);
        Check.deliverLast(x);
        Check.deliverLast(x);
        CHECK.due("it is the first write's lease that counts", x.lease(0, 1), 2);
        CHECK.due("over", x.flush(0), NO_LEASE);
        Check.getLease(x, 0, 0, 2);
        x.tick(0, 10);
        CHECK.due("now the second write's is over", x.lease(0, 1), 0);
        CHECK.due("and the first is sent", x.flush(0), 5);
        Check.deliverLast(x);
        Check.deliverLast(x);
        CHECK.due("then the second one's turn", x.flush(0), NO_LEASE);
    }

    private static void closeNoneThenLost() {
        LeasedPages x = lostWithALease();
        x.acquire(0, 1, 1);
        CHECK.due("an open request", x.close(0, 0), NONE);
        CHECK.due("the mark stays", x.lease(0, 0), 102);
        Check.deliverLast(x);
        Check.deliverLast(x);
        CHECK.due("LOST", x.close(0, 0), LOST);
        CHECK.due("the mark goes, the lease stays", x.lease(0, 0), 2);
        CHECK.due("nothing is sent", x.messages(), 0);
        CHECK.due("nothing is open, no number is used", x.close(0, 0), 4);
    }

    private static void closeNoneThenNoLease() {
        LeasedPages x = new LeasedPages(40);
        x.acquire(0, 0, 2);
        CHECK.due("an open request", x.close(0, 1), NONE);
        Check.deliverLast(x);
        Check.deliverLast(x);
        CHECK.due("no lease", x.close(0, 1), NO_LEASE);
        x.write(0, 0, 0, 1);
        x.tick(0, 18);
        CHECK.due("a dirty write, and the lease is over", x.close(0, 0), NONE);
        CHECK.due("nothing is sent", x.messages(), 0);
        x.crash(0);
        CHECK.due("down", x.close(0, 0), NONE);
    }

    private static void closeLostThenNoLease() {
        LeasedPages x = lostWithoutALease();
        CHECK.due("first", x.close(0, 0), LOST);
        CHECK.due("then", x.close(0, 0), NO_LEASE);
        CHECK.due("nothing is sent", x.messages(), 0);
    }
}
