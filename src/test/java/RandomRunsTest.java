import java.util.Random;

/** Runs of calls picked by chance, the same at every start, compared call for call with the model. */
public final class RandomRunsTest {
    private static final int RUNS = 24000;
    private static final int LONGEST = Run.MOST_CALLS - Run.MOST_VIEWS;
    // Just outside of clients, files, pages, modes and places, on one side or the other.
    private static final int[] EDGES = {-1, 0, 2, 3, 4};

    private final Random random;
    private final Run run;
    private final int files;
    private final int rareness;
    private final int wrongness;

    private RandomRunsTest(Check check, int seed) {
        random = new Random(seed);
        int length = 6 + random.nextInt(seed % 3 == 0 ? 200 : 30);
        // Few files make conflicts, few crashes let long lines and full lists of messages grow.
        files = 1 + random.nextInt(4);
        rareness = random.nextInt(4);
        wrongness = seed % 2 == 0 ? 0 : 60;
        run = new Run(check, "run " + seed, length);
    }

    public static void main(String[] args) {
        Check check = new Check("RandomRunsTest");
        for (int seed = 0; seed < RUNS; seed++) {
            new RandomRunsTest(check, seed).go();
        }
        check.end();
    }

    private void go() {
        int calls = 40 + random.nextInt(LONGEST - 40 + 1);
        for (int i = 0; i < calls; i++) {
            oneCall();
        }
        run.views();
    }

    private void oneCall() {
        int pick = random.nextInt(112);
        if (pick < 50) {
            clientCall(pick);
        } else if (pick < 80) {
            run.call(Call.DELIVER, place());
        } else if (pick < 88) {
            run.call(random.nextInt(4) < rareness ? Call.DUPLICATE : Call.DROP, place());
        } else if (pick < 100) {
            nodeCall();
        } else {
            view(pick - 100);
        }
    }

    private void clientCall(int pick) {
        if (pick < 16) {
            run.call(Call.ACQUIRE, client(), file(), perhapsWrong(1 + random.nextInt(2)));
        } else if (pick < 22) {
            run.call(Call.READ, client(), file(), page(), perhapsWrong(random.nextInt(2)));
        } else if (pick < 34) {
            run.call(Call.WRITE, client(), file(), page(), random.nextInt());
        } else if (pick < 42) {
            run.call(Call.FLUSH, client());
        } else if (pick < 46) {
            run.call(Call.CLOSE, client(), file());
        } else {
            run.call(Call.RETRY, client());
        }
    }

    private void nodeCall() {
        int node = perhapsWrong(random.nextInt(4));
        int pick = random.nextInt(12 + 20 * rareness);
        if (pick < 2) {
            run.call(Call.CRASH, node);
        } else if (pick < 6) {
            run.call(Call.RESTART, node);
        } else {
            run.call(Call.TICK, node, perhapsWrong(1 + random.nextInt(random.nextInt(6) == 0 ? 30 : 3)));
        }
    }

    private void view(int pick) {
        switch (pick) {
            case 0 -> run.call(Call.MESSAGES);
            case 1, 2 -> run.call(Call.MESSAGE, place());
            case 3 -> run.call(Call.CLOCK, perhapsWrong(random.nextInt(4)));
            case 4, 5 -> run.call(Call.LEASE, client(), file());
            case 6 -> run.call(Call.DIRTY, client());
            case 7, 8 -> run.call(Call.HELD, client(), file());
            case 9, 10 -> run.call(Call.WAITING, file());
            default -> run.call(Call.STORED, file(), page());
        }
    }

    private int client() {
        return perhapsWrong(random.nextInt(3));
    }

    private int file() {
        return perhapsWrong(random.nextInt(files));
    }

    private int page() {
        return perhapsWrong(random.nextInt(4));
    }

    private int place() {
        int count = Math.max(1, run.model.messages());
        return perhapsWrong(random.nextInt(3) == 0 ? random.nextInt(count) : random.nextInt(Math.min(3, count)));
    }

    private int perhapsWrong(int right) {
        if (wrongness == 0 || random.nextInt(wrongness) != 0) {
            return right;
        }
        return random.nextInt(3) == 0 ? random.nextInt() : EDGES[random.nextInt(EDGES.length)];
    }
}
