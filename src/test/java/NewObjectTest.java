/** Promise 1. */
public final class NewObjectTest {
    private static final Check CHECK = new Check("NewObjectTest");

    public static void main(String[] args) {
        allIsEmpty();
        int[] given = {Integer.MIN_VALUE, -1, 0, 7, 8, 9, 10, 11, 199, 200, 201, Integer.MAX_VALUE};
        int[] due = {8, 8, 8, 8, 8, 9, 10, 11, 199, 200, 200, 200};
        for (int i = 0; i < given.length; i++) {
            lengthIs(given[i], due[i]);
        }
        CHECK.end();
    }

    private static void allIsEmpty() {
        LeasedPages x = new LeasedPages(20);
        CHECK.due("messages()", x.messages(), 0);
        for (int node = 0; node < 4; node++) {
            CHECK.due("clock", x.clock(node), 0);
            CHECK.no("restart of a node that is up", x.restart(node));
        }
        for (int f = 0; f < 4; f++) {
            CHECK.due("waiting", x.waiting(f), 0);
            for (int c = 0; c < 3; c++) {
                CHECK.due("lease", x.lease(c, f), 0);
                CHECK.due("held", x.held(c, f), 0);
                CHECK.due("dirty", x.dirty(c), 0);
                CHECK.due("retry", x.retry(c), -1);
            }
            for (int p = 0; p < 4; p++) {
                CHECK.due("stored", x.stored(f, p), 0);
            }
        }
        CHECK.due("the first request's number", x.acquire(1, 0, 1), 1);
        Check.deliverLast(x);
        CHECK.due("no grace at first", x.message(0), 4100001);
    }

    private static void lengthIs(int given, int length) {
        LeasedPages x = new LeasedPages(given);
        Check.getLease(x, 0, 0, 1);
        CHECK.due("held with length " + given, x.held(0, 0), 1000 + length);
        int term = length / 2 - 2;
        if (term > 1) {
            x.tick(0, term - 1);
        }
        CHECK.due("lease before TERM is over, length " + given, x.lease(0, 0), 1);
        x.tick(0, 1);
        CHECK.due("lease when TERM is over, length " + given, x.lease(0, 0), 0);
        for (int i = 1; i < length; i++) {
            x.tick(3, 1);
        }
        CHECK.due("held a tick before LENGTH is over, length " + given, x.held(0, 0), 1001);
        x.tick(3, 1);
        CHECK.due("held when LENGTH is over, length " + given, x.held(0, 0), 0);
    }
}
