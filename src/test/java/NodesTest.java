/** Promises 13 to 16. */
public final class NodesTest {
    private static final Check CHECK = new Check("NodesTest");

    public static void main(String[] args) {
        clocksGo();
        wrongTicks();
        crashesAndRestarts();
        clientForgets();
        serverForgets();
        eachTickOfTheServerCounts();
        CHECK.end();
    }

    private static void clocksGo() {
        LeasedPages x = new LeasedPages(20);
        for (int node = 0; node < 4; node++) {
            CHECK.yes("tick", x.tick(node, 1));
            CHECK.yes("tick", x.tick(node, 100));
            CHECK.yes("tick", x.tick(node, 10 * node + 1));
        }
        for (int node = 0; node < 4; node++) {
            CHECK.due("clock " + node, x.clock(node), 102 + 10 * node);
            x.crash(node);
            CHECK.due("clock of a node that is down", x.clock(node), 102 + 10 * node);
            x.restart(node);
            CHECK.due("clock after the restart", x.clock(node), 102 + 10 * node);
        }
        for (int wrong : Check.outside(4)) {
            CHECK.due("clock " + wrong, x.clock(wrong), -1);
        }
    }

    private static void wrongTicks() {
        LeasedPages x = new LeasedPages(20);
        for (int wrong : Check.outside(4)) {
            CHECK.no("node " + wrong, x.tick(wrong, 1));
        }
        for (int node = 0; node < 4; node++) {
            for (int wrong : new int[] {0, -1, 101, Integer.MIN_VALUE, Integer.MAX_VALUE}) {
                CHECK.no("ticks " + wrong, x.tick(node, wrong));
            }
            x.crash(node);
            CHECK.no("down", x.tick(node, 1));
            CHECK.due("clock", x.clock(node), 0);
        }
    }

    private static void crashesAndRestarts() {
        LeasedPages x = new LeasedPages(20);
        for (int wrong : Check.outside(4)) {
            CHECK.no("crash " + wrong, x.crash(wrong));
            CHECK.no("restart " + wrong, x.restart(wrong));
        }
        for (int node = 0; node < 4; node++) {
            CHECK.no("restart of one that is up", x.restart(node));
            CHECK.yes("crash", x.crash(node));
            CHECK.no("crash of one that is down", x.crash(node));
            CHECK.yes("restart", x.restart(node));
            CHECK.yes("tick", x.tick(node, 1));
        }
    }

    private static void clientForgets() {
        LeasedPages x = new LeasedPages(40);
        Check.getLease(x, 0, 0, 2);
        Check.getLease(x, 0, 1, 2);
        x.write(0, 0, 0, 4);
        x.acquire(1, 0, 1);
        x.deliver(0);
        x.deliver(0);
        x.acquire(0, 2, 1);
        CHECK.due("recalled before", x.lease(0, 0), 12);
        x.crash(0);
        x.deliver(0);
        CHECK.due("its request arrives all the same", x.message(0), 4020003);
        x.deliver(0);
        CHECK.due("the reply is gone", x.messages(), 0);
        x.restart(0);
        for (int f = 0; f < 4; f++) {
            CHECK.due("lease", x.lease(0, f), 0);
            CHECK.due("close", x.close(0, f), -2);
        }
        CHECK.due("dirty", x.dirty(0), 0);
        CHECK.due("retry", x.retry(0), -1);
        CHECK.due("the server knows its leases yet", x.held(0, 1), 2040);
        CHECK.due("the number goes on", x.acquire(0, 1, 1), 4);

        LeasedPages y = new LeasedPages(40);
        ClientTermsTest.loseWrites(y, 0, 0);
        y.crash(0);
        y.restart(0);
        CHECK.due("the mark LOST is forgotten", y.lease(0, 0), 0);
    }

    private static void serverForgets() {
        LeasedPages x = new LeasedPages(12);
        x.tick(3, 5);
        Check.getLease(x, 0, 0, 2);
        x.write(0, 0, 2, 9);
        x.flush(0);
        x.deliver(0);
        x.drop(0);
        x.acquire(1, 0, 1);
        x.deliver(0);
        Check.dropAll(x);
        CHECK.due("waits before", x.waiting(0), 1);
        x.crash(3);
        CHECK.due("waiting while down", x.waiting(0), 0);
        CHECK.due("held while down", x.held(0, 0), 0);
        CHECK.due("stored while down", x.stored(0, 2), 9);
        x.retry(1);
        x.deliver(0);
        CHECK.due("a request is lost while it is down", x.messages(), 0);
        x.restart(3);
        CHECK.due("waiting", x.waiting(0), 0);
        CHECK.due("held", x.held(0, 0), 0);
        CHECK.due("stored", x.stored(0, 2), 9);
        CHECK.due("clock", x.clock(3), 5);
        x.retry(0);
        x.deliver(0);
        CHECK.due("it remembers what is done", x.message(0), 6000002);
    }

    private static void eachTickOfTheServerCounts() {
        LeasedPages x = new LeasedPages(10);
        Check.getLease(x, 0, 0, 2);
        x.acquire(1, 0, 2);
        x.deliver(0);
        x.acquire(2, 0, 2);
        x.deliver(1);
        Check.dropAll(x);
        x.tick(3, 9);
        CHECK.due("not yet", x.waiting(0), 2);
        x.tick(3, 13);
        CHECK.due("client 1 from 10 to 20, then client 2 to 30", x.held(2, 0), 2008);
        CHECK.due("client 1's is over", x.held(1, 0), 0);
        CHECK.due("first grant", x.message(0), 4100001);
        CHECK.due("second grant", x.message(1), 4200001);
        CHECK.due("two", x.messages(), 2);
    }
}
