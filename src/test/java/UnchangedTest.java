import java.util.ArrayList;
import java.util.List;

/**
 * "A call that is refused changes nothing": of two objects with the same calls, one gets all the refused calls
 * besides, and the two must go on giving the same answers.
 */
public final class UnchangedTest {
    private static final Check CHECK = new Check("UnchangedTest");
    private static final int[] FAR = {Integer.MIN_VALUE, -2, -1, 4, 5, Integer.MAX_VALUE};

    public static void main(String[] args) {
        for (int state = 0; state <= 4; state++) {
            LeasedPages plain = made(state);
            LeasedPages asked = made(state);
            wrongEverywhere(asked);
            refusedInState(state, asked);
            compare("state " + state, views(plain), views(asked));
            compare("state " + state + ", later", goOn(plain), goOn(asked));
            compare("state " + state + ", at the end", views(plain), views(asked));
        }
        CHECK.end();
    }

    /** 0: new; 1: leases and open requests; 2: six dirty writes; 3: lost and recalled; 4: two nodes down. */
    private static LeasedPages made(int state) {
        LeasedPages x = new LeasedPages(30);
        if (state > 0) {
            Check.getLease(x, 0, 0, 2);
            Check.getLease(x, 1, 1, 1);
            x.write(0, 0, 0, 5);
            x.acquire(2, 0, 1);
            x.deliver(0);
        }
        if (state == 1) {
            x.flush(0);
            x.acquire(1, 1, 2);
        } else if (state == 2) {
            for (int i = 0; i < 5; i++) {
                x.write(0, 0, i % 4, i);
            }
        } else if (state == 3) {
            x.tick(3, 30);
            Check.getLease(x, 1, 2, 2);
            x.flush(0);
            Check.deliverLast(x);
            Check.deliverLast(x);
            x.deliver(0);
        } else if (state == 4) {
            x.flush(0);
            x.crash(1);
            x.crash(3);
        }
        return x;
    }

    private static void wrongEverywhere(LeasedPages x) {
        for (int far : FAR) {
            wrongClient(x, far);
            CHECK.due("acquire of file " + far, x.acquire(0, far, 1), -1);
            CHECK.due("acquire with mode " + far, x.acquire(0, 3, far), -1);
            CHECK.due("read of file " + far, x.read(0, far, 0, 0), -1);
            CHECK.due("read of page " + far, x.read(0, 0, far, 0), -1);
            CHECK.due("read, how " + far, x.read(0, 0, 0, far), -1);
            CHECK.due("write to file " + far, x.write(0, far, 0, 8), -1);
            CHECK.due("write to page " + far, x.write(0, 0, far, 8), -1);
            CHECK.due("close of file " + far, x.close(0, far), -1);
            CHECK.no("tick of node " + far, x.tick(far, 1));
            CHECK.no("crash of node " + far, x.crash(far));
            CHECK.no("restart of node " + far, x.restart(far));
        }
        wrongClient(x, 3);
        CHECK.due("acquire with mode 0", x.acquire(0, 3, 0), -1);
        CHECK.due("acquire with mode 3", x.acquire(0, 3, 3), -1);
        CHECK.due("read, how 2", x.read(0, 0, 0, 2), -1);
        int count = x.messages();
        for (int wrong : new int[] {Integer.MIN_VALUE, -1, count, count + 1, 60, Integer.MAX_VALUE}) {
            CHECK.no("deliver " + wrong, x.deliver(wrong));
            CHECK.no("drop " + wrong, x.drop(wrong));
            CHECK.no("duplicate " + wrong, x.duplicate(wrong));
        }
        for (int node = 0; node < 4; node++) {
            for (int wrong : new int[] {Integer.MIN_VALUE, -1, 0, 101, Integer.MAX_VALUE}) {
                CHECK.no("tick by " + wrong, x.tick(node, wrong));
            }
        }
    }

    private static void wrongClient(LeasedPages x, int wrong) {
        CHECK.due("acquire by client " + wrong, x.acquire(wrong, 3, 1), -1);
        CHECK.due("read by client " + wrong, x.read(wrong, 0, 0, 0), -1);
        CHECK.due("write by client " + wrong, x.write(wrong, 0, 0, 8), -1);
        CHECK.due("flush by client " + wrong, x.flush(wrong), -1);
        CHECK.due("close by client " + wrong, x.close(wrong, 0), -1);
        CHECK.due("retry by client " + wrong, x.retry(wrong), -1);
    }

    private static void refusedInState(int state, LeasedPages x) {
        if (state == 0) {
            CHECK.due("nothing to flush", x.flush(0), -1);
            CHECK.due("nothing open", x.retry(0), -1);
            CHECK.due("nothing to close", x.close(0, 0), -2);
            CHECK.due("nothing to read", x.read(0, 0, 0, 0), -2);
            CHECK.due("nothing to write", x.write(0, 0, 0, 8), -2);
        } else if (state == 1) {
            for (int c = 0; c < 3; c++) {
                CHECK.due("acquire with an open request", x.acquire(c, 3, 1), -1);
                CHECK.due("flush with an open request", x.flush(c), -1);
                CHECK.due("close with an open request", x.close(c, 1), -1);
            }
            CHECK.due("write with a lease for reading", x.write(1, 1, 0, 8), -2);
        } else if (state == 2) {
            CHECK.due("a seventh write", x.write(0, 0, 0, 8), -4);
            CHECK.due("close with a dirty write", x.close(0, 0), -1);
            CHECK.due("retry with none open", x.retry(0), -1);
        } else if (state == 3) {
            CHECK.due("whether a lost file can be read", x.read(0, 0, 0, 1), -3);
            CHECK.due("a write without a lease", x.write(0, 1, 0, 8), -2);
        } else {
            refusedWhileDown(x);
        }
        for (int node = 0; node < 4; node++) {
            if (state != 4 || node % 2 == 0) {
                CHECK.no("restart of one that is up", x.restart(node));
            }
        }
    }

    private static void refusedWhileDown(LeasedPages x) {
        CHECK.due("acquire", x.acquire(1, 3, 1), -1);
        CHECK.due("read", x.read(1, 1, 0, 0), -1);
        CHECK.due("write", x.write(1, 1, 0, 8), -1);
        CHECK.due("flush", x.flush(1), -1);
        CHECK.due("close", x.close(1, 1), -1);
        CHECK.due("retry", x.retry(1), -1);
        for (int node = 1; node <= 3; node += 2) {
            CHECK.no("tick", x.tick(node, 1));
            CHECK.no("crash", x.crash(node));
        }
    }

    private static List<Integer> views(LeasedPages x) {
        List<Integer> seen = new ArrayList<>();
        for (int i = 0; i <= x.messages(); i++) {
            seen.add(x.message(i));
        }
        for (int node = 0; node < 4; node++) {
            seen.add(x.clock(node));
            seen.add(x.waiting(node));
            seen.add(x.dirty(node));
            for (int f = 0; f < 4; f++) {
                seen.add(x.lease(node, f));
                seen.add(x.held(node, f));
                seen.add(x.stored(f, node));
                seen.add(x.read(0, f, node, 1));
            }
        }
        return seen;
    }

    /** Brings to light what no view shows: numbers, open requests, copies, done requests, grace. */
    private static List<Integer> goOn(LeasedPages x) {
        List<Integer> seen = new ArrayList<>();
        for (int c = 0; c < 3; c++) {
            seen.add(x.retry(c));
            for (int p = 0; p < 4; p++) {
                seen.add(x.read(c, c, p, 0));
            }
        }
        for (int i = 0; i < 10; i++) {
            seen.add(x.deliver(0) ? 1 : 0);
            seen.add(x.message(x.messages() - 1));
        }
        for (int node = 0; node < 4; node++) {
            seen.add(x.restart(node) ? 1 : 0);
            seen.add(x.tick(node, 10) ? 1 : 0);
            seen.add(x.flush(node));
            seen.add(x.acquire(node, 3, 1));
            seen.add(x.deliver(0) ? 1 : 0);
            seen.add(x.message(0));
        }
        return seen;
    }

    private static void compare(String what, List<Integer> plain, List<Integer> asked) {
        CHECK.due(what + ": how many answers", asked.size(), plain.size());
        for (int i = 0; i < Math.min(plain.size(), asked.size()); i++) {
            CHECK.due(what + ": answer " + i, asked.get(i), plain.get(i));
        }
    }
}
