import java.util.Random;

/**
 * Long runs of calls, the same at every start, compared call for call and view for view with the model. With the views
 * a run has more than the 512 calls that the document speaks of: they change nothing, so the comparison holds on.
 */
public final class RandomRunsTest {
    private static final int RUNS = 1500;
    private static final int CALLS = 400;

    private final Check check;
    private final Random random;
    private final int run;
    private final LeasedPages x;
    private final Model model;
    private final int files;
    private final int rareness;

    private RandomRunsTest(Check check, int run) {
        this.check = check;
        this.run = run;
        random = new Random(run);
        int length = 6 + random.nextInt(run % 3 == 0 ? 200 : 30);
        // Few files make conflicts, few crashes let long lines and full lists of messages grow.
        files = 1 + random.nextInt(4);
        rareness = random.nextInt(4);
        x = new LeasedPages(length);
        model = new Model(length);
    }

    public static void main(String[] args) {
        Check check = new Check("RandomRunsTest");
        for (int run = 0; run < RUNS; run++) {
            new RandomRunsTest(check, run).go();
        }
        check.end();
    }

    private void go() {
        for (int i = 0; i < CALLS; i++) {
            oneCall("run " + run + " call " + i + ": ");
            views("run " + run + " after call " + i + ": ");
        }
    }

    private void oneCall(String at) {
        int c = random.nextInt(3);
        int f = random.nextInt(files);
        int p = random.nextInt(4);
        int pick = random.nextInt(100);
        if (pick < 16) {
            int mode = 1 + random.nextInt(2);
            check.due(at + "acquire", x.acquire(c, f, mode), model.acquire(c, f, mode));
        } else if (pick < 22) {
            int how = random.nextInt(2);
            check.due(at + "read", x.read(c, f, p, how), model.read(c, f, p, how));
        } else if (pick < 34) {
            int v = random.nextInt();
            check.due(at + "write", x.write(c, f, p, v), model.write(c, f, p, v));
        } else if (pick < 42) {
            check.due(at + "flush", x.flush(c), model.flush(c));
        } else if (pick < 46) {
            check.due(at + "close", x.close(c, f), model.close(c, f));
        } else if (pick < 50) {
            check.due(at + "retry", x.retry(c), model.retry(c));
        } else if (pick < 80) {
            int i = place();
            check.due(at + "deliver", x.deliver(i) ? 1 : 0, model.deliver(i) ? 1 : 0);
        } else if (pick < 88) {
            loseOrDouble(at);
        } else {
            nodeCall(at);
        }
    }

    private int place() {
        int count = Math.max(1, model.messages.size());
        return random.nextInt(3) == 0 ? random.nextInt(count) : random.nextInt(Math.min(3, count));
    }

    private void loseOrDouble(String at) {
        int i = place();
        if (random.nextInt(4) < rareness) {
            check.due(at + "duplicate", x.duplicate(i) ? 1 : 0, model.duplicate(i) ? 1 : 0);
        } else {
            check.due(at + "drop", x.drop(i) ? 1 : 0, model.drop(i) ? 1 : 0);
        }
    }

    private void nodeCall(String at) {
        int node = random.nextInt(4);
        int pick = random.nextInt(12 + 20 * rareness);
        if (pick < 2) {
            check.due(at + "crash", x.crash(node) ? 1 : 0, model.crash(node) ? 1 : 0);
        } else if (pick < 6) {
            check.due(at + "restart", x.restart(node) ? 1 : 0, model.restart(node) ? 1 : 0);
        } else {
            int n = 1 + random.nextInt(random.nextInt(6) == 0 ? 30 : 3);
            check.due(at + "tick", x.tick(node, n) ? 1 : 0, model.tick(node, n) ? 1 : 0);
        }
    }

    private void views(String at) {
        check.due(at + "messages", x.messages(), model.messages.size());
        for (int i = 0; i <= model.messages.size(); i++) {
            check.due(at + "message", x.message(i), model.message(i));
        }
        for (int node = 0; node < 4; node++) {
            check.due(at + "clock", x.clock(node), model.clock(node));
        }
        for (int f = 0; f < 4; f++) {
            check.due(at + "waiting", x.waiting(f), model.waiting(f));
            for (int p = 0; p < 4; p++) {
                check.due(at + "stored", x.stored(f, p), model.stored[f][p]);
            }
            for (int c = 0; c < 3; c++) {
                check.due(at + "lease", x.lease(c, f), model.lease(c, f));
                check.due(at + "held", x.held(c, f), model.held(c, f));
                check.due(at + "dirty", x.dirty(c), model.dirty(c));
                copies(at, c, f);
            }
        }
    }

    /** A lost mark would go by reading, so a marked file is left alone. */
    private void copies(String at, int c, int f) {
        if (x.lease(c, f) < 100) {
            for (int p = 0; p < 4; p++) {
                check.due(at + "copy", x.read(c, f, p, 0), model.read(c, f, p, 0));
            }
        }
    }
}
