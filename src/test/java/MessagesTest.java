/** Promises 8 to 12. */
public final class MessagesTest {
    private static final Check CHECK = new Check("MessagesTest");

    public static void main(String[] args) {
        emptyList();
        orderIsKept();
        everyCode();
        wrongPlaces();
        doublesCarryTheSame();
        sixtyAtMost();
        whatIsTheSixtyFirstIsLost();
        CHECK.end();
    }

    private static LeasedPages withThree() {
        LeasedPages x = new LeasedPages(20);
        x.acquire(0, 0, 1);
        x.acquire(1, 1, 1);
        x.acquire(2, 2, 1);
        return x;
    }

    private static void codes(String what, LeasedPages x, int... due) {
        CHECK.due(what + ": how many", x.messages(), due.length);
        for (int i = 0; i < due.length; i++) {
            CHECK.due(what + ": message " + i, x.message(i), due[i]);
        }
        CHECK.due(what + ": none behind", x.message(due.length), -1);
    }

    private static void emptyList() {
        LeasedPages x = new LeasedPages(20);
        for (int round = 0; round < 2; round++) {
            CHECK.due("messages", x.messages(), 0);
            for (int i = -1; i <= 1; i++) {
                CHECK.due("message " + i, x.message(i), -1);
                CHECK.no("deliver " + i, x.deliver(i));
                CHECK.no("drop " + i, x.drop(i));
                CHECK.no("duplicate " + i, x.duplicate(i));
            }
            x.acquire(round, 0, 1);
            CHECK.due("one", x.messages(), 1);
            CHECK.yes("the one is lost", x.drop(0));
        }
    }

    private static void orderIsKept() {
        LeasedPages x = withThree();
        codes("sent", x, 1000001, 1110001, 1220001);
        CHECK.yes("drop", x.drop(1));
        codes("dropped", x, 1000001, 1220001);
        CHECK.yes("duplicate", x.duplicate(0));
        codes("doubled", x, 1000001, 1220001, 1000001);
        CHECK.yes("deliver", x.deliver(1));
        codes("delivered", x, 1000001, 1000001, 4220001);
        CHECK.yes("deliver", x.deliver(2));
        codes("delivered", x, 1000001, 1000001);
        CHECK.due("what was dropped never came", x.held(1, 1), 0);
    }

    /** Each kind for the first and the last client and file. */
    private static void everyCode() {
        for (int c = 0; c < 3; c += 2) {
            for (int f = 0; f < 4; f += 3) {
                int rest = 100000 * c + 10000 * f;
                LeasedPages x = new LeasedPages(20);
                x.acquire(c, f, 2);
                codes("LEASE", x, 1000001 + rest);
                x.deliver(0);
                codes("granted", x, 4000001 + rest);
                x.deliver(0);
                x.write(c, f, 0, 5);
                x.write(c, f, 0, 6);
                x.flush(c);
                codes("STORE", x, 2000002 + rest);
                x.deliver(0);
                codes("yes to a STORE", x, 6000002 + rest);
                x.deliver(0);
                x.acquire(1, f, 1);
                x.deliver(0);
                codes("RECALL", x, 8000000 + rest);
                x.drop(0);
                x.acquire(c, f, 2);
                x.deliver(0);
                codes("refused", x, 5000003 + rest);
                x.deliver(0);
                x.tick(3, 20);
                x.drop(0);
                x.flush(c);
                x.deliver(0);
                codes("no", x, 7000004 + rest);
                x.deliver(0);
                Check.getLease(x, c, (f + 1) % 4, 1);
                x.close(c, (f + 1) % 4);
                int other = 100000 * c + 10000 * ((f + 1) % 4);
                codes("RELEASE", x, 3000006 + other);
                x.deliver(0);
                codes("yes to a RELEASE", x, 6000006 + other);
            }
        }
    }

    private static void wrongPlaces() {
        LeasedPages x = withThree();
        for (int wrong : Check.outside(3)) {
            CHECK.due("message " + wrong, x.message(wrong), -1);
            CHECK.no("deliver " + wrong, x.deliver(wrong));
            CHECK.no("drop " + wrong, x.drop(wrong));
            CHECK.no("duplicate " + wrong, x.duplicate(wrong));
        }
        CHECK.no("behind 59", x.deliver(60));
        codes("nothing changed", x, 1000001, 1110001, 1220001);
    }

    private static void doublesCarryTheSame() {
        LeasedPages x = new LeasedPages(20);
        Check.getLease(x, 0, 0, 2);
        x.write(0, 0, 3, 77);
        x.flush(0);
        x.duplicate(0);
        x.drop(0);
        x.deliver(0);
        CHECK.due("a doubled STORE", x.stored(0, 3), 77);
        x.duplicate(0);
        x.drop(0);
        x.deliver(0);
        CHECK.due("a doubled reply", x.dirty(0), 0);
        x.close(0, 0);
        x.deliver(0);
        x.deliver(0);
        x.acquire(1, 0, 1);
        x.deliver(0);
        x.duplicate(0);
        x.drop(0);
        x.deliver(0);
        CHECK.due("pages in a doubled grant", x.read(1, 0, 3, 0), 77);
        x.acquire(2, 0, 2);
        x.deliver(0);
        x.duplicate(0);
        codes("recalls", x, 8100000, 8100000);
        x.drop(0);
        x.deliver(0);
        CHECK.due("a doubled recall", x.lease(1, 0), 11);
    }

    private static void sixtyAtMost() {
        LeasedPages x = new LeasedPages(20);
        x.acquire(0, 0, 1);
        for (int i = 1; i < 60; i++) {
            CHECK.yes("duplicate", x.duplicate(i - 1));
        }
        CHECK.due("sixty", x.messages(), 60);
        CHECK.due("the last", x.message(59), 1000001);
        CHECK.due("none behind", x.message(60), -1);
        CHECK.no("no room", x.duplicate(59));
        x.drop(59);
        CHECK.yes("room again", x.duplicate(58));
    }

    private static LeasedPages full() {
        LeasedPages x = new LeasedPages(20);
        Check.getLease(x, 0, 0, 1);
        Check.getLease(x, 1, 0, 1);
        x.acquire(2, 0, 2);
        while (x.messages() < 60) {
            x.duplicate(0);
        }
        return x;
    }

    private static void whatIsTheSixtyFirstIsLost() {
        LeasedPages x = full();
        CHECK.due("a request is made", x.acquire(0, 1, 1), 2);
        CHECK.due("but lost", x.messages(), 60);
        CHECK.due("and open", x.acquire(0, 1, 1), -1);
        CHECK.due("retry answers", x.retry(0), 2);
        CHECK.due("but lost", x.messages(), 60);
        x.deliver(0);
        CHECK.due("one of two recalls is lost", x.messages(), 60);
        CHECK.due("client 0's is the first", x.message(59), 8000000);
        x.drop(0);
        CHECK.due("retry", x.retry(0), 2);
        CHECK.due("sent", x.message(59), 1010002);
    }
}
