/** Promises 17 to 21. */
public final class ViewsTest {
    private static final Check CHECK = new Check("ViewsTest");

    public static void main(String[] args) {
        lease();
        dirty();
        held();
        waiting();
        stored();
        CHECK.end();
    }

    private static void lease() {
        LeasedPages x = new LeasedPages(12);
        for (int wrong : Check.outside(3)) {
            CHECK.due("client " + wrong, x.lease(wrong, 0), -1);
        }
        for (int wrong : Check.outside(4)) {
            CHECK.due("file " + wrong, x.lease(0, wrong), -1);
        }
        Check.getLease(x, 0, 0, 1);
        CHECK.due("reading", x.lease(0, 0), 1);
        Check.getLease(x, 0, 1, 2);
        CHECK.due("writing", x.lease(0, 1), 2);
        x.acquire(1, 0, 2);
        x.deliver(0);
        x.deliver(0);
        CHECK.due("recalled", x.lease(0, 0), 11);
        x.tick(0, 4);
        CHECK.due("over and recalled", x.lease(0, 0), 10);
        CHECK.due("over", x.lease(0, 1), 0);
        x.crash(0);
        CHECK.due("down", x.lease(0, 0), -1);

        LeasedPages y = new LeasedPages(12);
        ClientTermsTest.loseWrites(y, 0, 3);
        CHECK.due("lost", y.lease(0, 3), 102);
        y.acquire(1, 3, 2);
        y.deliver(0);
        y.deliver(0);
        CHECK.due("lost and recalled", y.lease(0, 3), 112);
        y.tick(0, 4);
        CHECK.due("lost, recalled and over", y.lease(0, 3), 110);
    }

    private static void dirty() {
        LeasedPages x = new LeasedPages(12);
        for (int wrong : Check.outside(3)) {
            CHECK.due("client " + wrong, x.dirty(wrong), -1);
        }
        Check.getLease(x, 2, 0, 2);
        x.write(2, 0, 0, 1);
        x.write(2, 0, 0, 1);
        CHECK.due("two", x.dirty(2), 2);
        CHECK.due("not another's", x.dirty(1), 0);
        x.tick(2, 50);
        CHECK.due("they stay when the lease is over", x.dirty(2), 2);
        x.crash(2);
        CHECK.due("down", x.dirty(2), -1);
    }

    private static void held() {
        LeasedPages x = new LeasedPages(15);
        for (int wrong : Check.outside(3)) {
            CHECK.due("client " + wrong, x.held(wrong, 0), -1);
        }
        for (int wrong : Check.outside(4)) {
            CHECK.due("file " + wrong, x.held(0, wrong), -1);
        }
        x.tick(3, 7);
        Check.getLease(x, 1, 2, 1);
        CHECK.due("15 ticks", x.held(1, 2), 1015);
        x.tick(3, 14);
        CHECK.due("1 tick", x.held(1, 2), 1001);
        Check.getLease(x, 1, 2, 2);
        CHECK.due("again 15, for writing", x.held(1, 2), 2015);
        x.crash(1);
        CHECK.due("the client is down", x.held(1, 2), 2015);
        x.tick(3, 15);
        CHECK.due("over", x.held(1, 2), 0);
        x.crash(3);
        CHECK.due("server down", x.held(1, 2), 0);
        CHECK.due("wrong client, server down", x.held(3, 2), -1);
    }

    private static void waiting() {
        LeasedPages x = new LeasedPages(15);
        for (int wrong : Check.outside(4)) {
            CHECK.due("file " + wrong, x.waiting(wrong), -1);
        }
        Check.getLease(x, 0, 2, 2);
        x.acquire(1, 2, 1);
        x.deliver(0);
        CHECK.due("one", x.waiting(2), 1);
        x.acquire(2, 2, 1);
        x.deliver(1);
        CHECK.due("two", x.waiting(2), 2);
        CHECK.due("another file's line", x.waiting(1), 0);
        x.crash(3);
        CHECK.due("down", x.waiting(2), 0);
        CHECK.due("wrong file, down", x.waiting(4), -1);
    }

    private static void stored() {
        LeasedPages x = new LeasedPages(15);
        Check.getLease(x, 0, 3, 2);
        x.write(0, 3, 3, -1);
        CHECK.due("not yet", x.stored(3, 3), 0);
        Check.storeFirst(x, 0);
        CHECK.due("stored", x.stored(3, 3), -1);
        CHECK.due("another page", x.stored(3, 2), 0);
        CHECK.due("another file", x.stored(2, 3), 0);
        for (int wrong : Check.outside(4)) {
            CHECK.due("file " + wrong, x.stored(wrong, 3), 0);
            CHECK.due("page " + wrong, x.stored(3, wrong), 0);
        }
        x.crash(3);
        CHECK.due("down", x.stored(3, 3), -1);
    }
}
