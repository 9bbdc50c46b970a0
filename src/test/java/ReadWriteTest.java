/** Promises 3 and 4. */
public final class ReadWriteTest {
    private static final Check CHECK = new Check("ReadWriteTest");

    public static void main(String[] args) {
        readsItsCopy();
        valuesLikeTheConstants();
        wrongReads();
        readWithALostMark();
        writesItsCopy();
        wrongWrites();
        writeWithALostMark();
        sixAreFull();
        CHECK.end();
    }

    private static void readsItsCopy() {
        LeasedPages x = new LeasedPages(20);
        CHECK.due("without a lease", x.read(0, 0, 0, 0), -2);
        CHECK.due("whether, without a lease", x.read(0, 0, 0, 1), -2);
        Check.getLease(x, 0, 0, 2);
        x.write(0, 0, 3, -2);
        CHECK.due("a value like NO_LEASE", x.read(0, 0, 3, 0), -2);
        CHECK.due("whether", x.read(0, 0, 3, 1), 1);
        CHECK.due("a page not written", x.read(0, 0, 2, 0), 0);
        CHECK.due("another file", x.read(0, 1, 3, 0), -2);
        CHECK.due("another client", x.read(1, 0, 3, 0), -2);
        x.tick(0, 7);
        CHECK.due("at the last tick of TERM", x.read(0, 0, 3, 1), 1);
        x.tick(0, 1);
        CHECK.due("after TERM", x.read(0, 0, 3, 1), -2);
        CHECK.due("after TERM", x.read(0, 0, 3, 0), -2);
        Check.getLease(x, 1, 1, 1);
        CHECK.due("a lease for reading is enough", x.read(1, 1, 0, 0), 0);
        CHECK.due("whether, with a lease for reading", x.read(1, 1, 0, 1), 1);
    }

    private static void valuesLikeTheConstants() {
        LeasedPages x = new LeasedPages(200);
        Check.getLease(x, 0, 0, 2);
        for (int value : new int[] {-1, -2, -3, -4, 0, 1, Integer.MIN_VALUE, Integer.MAX_VALUE}) {
            CHECK.due("write " + value, x.write(0, 0, 1, value), 1);
            CHECK.due("read " + value, x.read(0, 0, 1, 0), value);
            CHECK.due("whether, with " + value, x.read(0, 0, 1, 1), 1);
            Check.storeFirst(x, 0);
            CHECK.due("stored " + value, x.stored(0, 1), value);
        }
    }

    private static void wrongReads() {
        LeasedPages x = new LeasedPages(20);
        Check.getLease(x, 0, 0, 1);
        for (int wrong : Check.outside(3)) {
            CHECK.due("client " + wrong, x.read(wrong, 0, 0, 0), -1);
        }
        for (int wrong : Check.outside(4)) {
            CHECK.due("file " + wrong, x.read(0, wrong, 0, 0), -1);
            CHECK.due("page " + wrong, x.read(0, 0, wrong, 0), -1);
        }
        for (int wrong : Check.outside(2)) {
            CHECK.due("how " + wrong, x.read(0, 0, 0, wrong), -1);
        }
        x.crash(0);
        CHECK.due("down", x.read(0, 0, 0, 0), -1);
        CHECK.due("down", x.read(0, 0, 0, 1), -1);
        x.restart(0);
        CHECK.due("the lease is forgotten", x.read(0, 0, 0, 0), -2);
    }

    private static void readWithALostMark() {
        LeasedPages x = new LeasedPages(20);
        ClientTermsTest.loseWrites(x, 0, 0);
        CHECK.due("wrong page first", x.read(0, 0, 4, 0), -1);
        CHECK.due("whether: LOST", x.read(0, 0, 0, 1), -3);
        CHECK.due("the mark stays", x.read(0, 0, 0, 1), -3);
        CHECK.due("how = 0: LOST", x.read(0, 0, 0, 0), -3);
        CHECK.due("the mark is gone", x.read(0, 0, 0, 1), 1);
        CHECK.due("and the copy is the server's", x.read(0, 0, 0, 0), 0);
    }

    private static void writesItsCopy() {
        LeasedPages x = new LeasedPages(20);
        Check.getLease(x, 0, 0, 2);
        Check.getLease(x, 0, 1, 2);
        CHECK.due("first", x.write(0, 0, 1, 11), 1);
        CHECK.due("of all files", x.write(0, 1, 1, 12), 2);
        CHECK.due("same page again", x.write(0, 0, 1, Integer.MIN_VALUE), 3);
        CHECK.due("copy", x.read(0, 0, 1, 0), Integer.MIN_VALUE);
        CHECK.due("copy of the other file", x.read(0, 1, 1, 0), 12);
        CHECK.due("dirty", x.dirty(0), 3);
        CHECK.due("the server has not got it", x.stored(0, 1), 0);
        CHECK.due("no message is sent", x.messages(), 0);
        x.acquire(0, 2, 1);
        CHECK.due("an open request does not hinder", x.write(0, 0, 0, 1), 4);
    }

    private static void wrongWrites() {
        LeasedPages x = new LeasedPages(12);
        CHECK.due("without a lease", x.write(0, 0, 0, 1), -2);
        Check.getLease(x, 0, 0, 1);
        CHECK.due("with a lease for reading", x.write(0, 0, 0, 1), -2);
        Check.getLease(x, 0, 0, 2);
        for (int wrong : Check.outside(3)) {
            CHECK.due("client " + wrong, x.write(wrong, 0, 0, 1), -1);
        }
        for (int wrong : Check.outside(4)) {
            CHECK.due("file " + wrong, x.write(0, wrong, 0, 1), -1);
            CHECK.due("page " + wrong, x.write(0, 0, wrong, 1), -1);
        }
        CHECK.due("none was kept", x.dirty(0), 0);
        x.tick(0, 4);
        CHECK.due("not valid any more", x.write(0, 0, 0, 1), -2);
        Check.getLease(x, 0, 0, 2);
        x.crash(0);
        CHECK.due("down", x.write(0, 0, 0, 1), -1);
    }

    private static void writeWithALostMark() {
        LeasedPages x = new LeasedPages(20);
        ClientTermsTest.loseWrites(x, 0, 0);
        CHECK.due("wrong page first", x.write(0, 0, -1, 9), -1);
        CHECK.due("LOST", x.write(0, 0, 0, 9), -3);
        CHECK.due("nothing was written", x.dirty(0), 0);
        CHECK.due("the mark is gone", x.write(0, 0, 0, 9), 1);
    }

    private static void sixAreFull() {
        LeasedPages x = new LeasedPages(20);
        Check.getLease(x, 0, 0, 2);
        Check.getLease(x, 0, 1, 2);
        for (int i = 1; i <= 6; i++) {
            CHECK.due("write " + i, x.write(0, i % 2, 0, i), i);
        }
        CHECK.due("seventh", x.write(0, 0, 0, 7), -4);
        CHECK.due("NO_LEASE before FULL", x.write(0, 2, 0, 7), -2);
        CHECK.due("the copy is as before", x.read(0, 0, 0, 0), 6);
        Check.storeFirst(x, 0);
        CHECK.due("one less", x.dirty(0), 5);
        CHECK.due("room again", x.write(0, 0, 0, 7), 6);
    }
}
