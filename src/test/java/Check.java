/** Counts the answers that are not due, and has steps that many tests take. */
final class Check {
    // One early fault in a long run makes every later answer wrong.
    private static final int MOST_TOLD = 40;

    private final String test;
    private int asked = 0;
    private int wrong = 0;

    Check(String test) {
        this.test = test;
    }

    void due(String what, long got, long want) {
        asked++;
        if (got != want) {
            wrong++;
            if (wrong <= MOST_TOLD) {
                System.out.println(test + ": " + what + " answered " + got + ", due is " + want);
            }
        }
    }

    void yes(String what, boolean got) {
        due(what, got ? 1 : 0, 1);
    }

    void no(String what, boolean got) {
        due(what, got ? 1 : 0, 0);
    }

    void end() {
        System.out.println(test + ": " + asked + " answers, " + wrong + " wrong");
        if (wrong != 0) {
            System.exit(1);
        }
    }

    /** The message sent last arrives. */
    static void deliverLast(LeasedPages x) {
        x.deliver(x.messages() - 1);
    }

    /** Client c asks, and request and reply arrive: only where nothing is in the way of the grant. */
    static void getLease(LeasedPages x, int c, int f, int mode) {
        x.acquire(c, f, mode);
        deliverLast(x);
        deliverLast(x);
    }

    /** Client c stores its first dirty write, and request and reply arrive. */
    static void storeFirst(LeasedPages x, int c) {
        x.flush(c);
        deliverLast(x);
        deliverLast(x);
    }

    static void dropAll(LeasedPages x) {
        while (x.messages() > 0) {
            x.drop(0);
        }
    }

    /** Wrong clients, files and pages: just outside and far outside. */
    static int[] outside(int count) {
        return new int[] {-1, count, Integer.MIN_VALUE, Integer.MAX_VALUE};
    }
}
