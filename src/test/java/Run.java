import java.util.ArrayList;
import java.util.Arrays;
import java.util.List;

/** A run of calls on a new object and on a new model, whose answers must be the same. */
final class Run {
    /** The document says nothing about an object after so many calls. */
    static final int MOST_CALLS = 512;
    static final int MOST_VIEWS = 160;

    final Model model;
    private final LeasedPages x;
    private final Check check;
    private final String name;
    private final int length;
    private final List<Call> calls = new ArrayList<>();
    private final List<int[]> arguments = new ArrayList<>();
    private boolean told = false;

    Run(Check check, String name, int length) {
        this.check = check;
        this.name = name;
        this.length = length;
        x = new LeasedPages(length);
        model = new Model(length);
    }

    int callsLeft() {
        return MOST_CALLS - calls.size();
    }

    int call(Call call, int... a) {
        if (callsLeft() == 0) {
            throw new IllegalStateException(name + " has more than " + MOST_CALLS + " calls");
        }
        calls.add(call);
        arguments.add(a);
        int got = call.on(x, a);
        int due = call.on(model, a);
        check.due(name + ": call " + calls.size() + ", " + call, got, due);
        if (got != due && !told) {
            told = true;
            tell();
        }
        return due;
    }

    private void tell() {
        System.out.println("new LeasedPages(" + length + ")");
        for (int i = 0; i < calls.size(); i++) {
            System.out.println("  " + calls.get(i) + " " + Arrays.toString(arguments.get(i)));
        }
    }

    /** The message sent last arrives. */
    void deliverLast() {
        call(Call.DELIVER, model.messages() - 1);
    }

    void getLease(int c, int f, int mode) {
        call(Call.ACQUIRE, c, f, mode);
        deliverLast();
        deliverLast();
    }

    /** All that can be seen without a change, with at most MOST_VIEWS calls. */
    void views() {
        call(Call.MESSAGES);
        for (int i = 0; i < model.messages(); i++) {
            call(Call.MESSAGE, i);
        }
        for (int c = 0; c < 3; c++) {
            call(Call.DIRTY, c);
            call(Call.CLOCK, c);
            for (int f = 0; f < 4; f++) {
                call(Call.HELD, c, f);
                // Reading takes the mark LOST away, and what cannot be read has no copy to look at.
                if (call(Call.LEASE, c, f) < 100 && model.read(c, f, 0, 1) == 1) {
                    copy(c, f);
                }
            }
        }
        call(Call.CLOCK, 3);
        for (int f = 0; f < 4; f++) {
            call(Call.WAITING, f);
            for (int p = 0; p < 4; p++) {
                call(Call.STORED, f, p);
            }
        }
    }

    private void copy(int c, int f) {
        for (int p = 0; p < 4; p++) {
            call(Call.READ, c, f, p, 0);
        }
    }
}
