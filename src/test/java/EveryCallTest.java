import java.util.ArrayList;
import java.util.List;

/**
 * Every call with every argument inside and just outside of its range, in states that stand at an edge: the answer, all
 * that can be seen afterwards, and what a few more calls bring to light, compared with the model. A refused call that
 * changes something, also where no view shows it, is found here.
 */
public final class EveryCallTest {
    private static final Check CHECK = new Check("EveryCallTest");

    private record Step(Call call, int... arguments) { }

    public static void main(String[] args) {
        List<Step> steps = everyStep();
        for (Scene scene : Scene.values()) {
            for (Step step : steps) {
                Run run = new Run(CHECK, scene + " and then " + step.call, scene.length);
                scene.play(run);
                run.call(step.call, step.arguments);
                run.views();
                goOn(run);
                run.views();
            }
        }
        CHECK.end();
    }

    /** What no view shows: open requests, numbers, grace, replies that the server keeps, and who is down. */
    private static void goOn(Run run) {
        for (int c = 0; c < 3; c++) {
            run.call(Call.RETRY, c);
            run.deliverLast();
        }
        for (int i = 0; i < 6; i++) {
            run.call(Call.DELIVER, 0);
        }
        for (int c = 0; c < 3; c++) {
            run.call(Call.FLUSH, c);
            run.deliverLast();
            run.deliverLast();
            run.call(Call.ACQUIRE, c, 0, 1);
            run.deliverLast();
            run.call(Call.TICK, c, 1);
        }
        run.call(Call.TICK, 3, 1);
        for (int i = 0; i < 6; i++) {
            run.deliverLast();
        }
    }

    private static List<Step> everyStep() {
        List<Step> steps = new ArrayList<>();
        steps.add(new Step(Call.MESSAGES));
        for (int a = -1; a <= 4; a++) {
            addOfOne(steps, a);
            for (int b = -1; b <= 4; b++) {
                addOfTwo(steps, a, b);
                for (int c = -1; c <= 4; c++) {
                    steps.add(new Step(Call.ACQUIRE, a, b, c));
                    steps.add(new Step(Call.WRITE, a, b, c, 77));
                    for (int d = -1; d <= 2; d++) {
                        steps.add(new Step(Call.READ, a, b, c, d));
                    }
                }
            }
            for (int n : new int[] {-1, 0, 1, 2, 7, 8, 9, 99, 100, 101}) {
                steps.add(new Step(Call.TICK, a, n));
            }
        }
        for (int i : new int[] {-1, 0, 1, 2, 3, 4, 5, 6, 7, 8, 57, 58, 59, 60, 61}) {
            for (Call call : new Call[] {Call.MESSAGE, Call.DELIVER, Call.DROP, Call.DUPLICATE}) {
                steps.add(new Step(call, i));
            }
        }
        return steps;
    }

    private static void addOfOne(List<Step> steps, int a) {
        Call[] ofOne = {Call.FLUSH, Call.RETRY, Call.CRASH, Call.RESTART, Call.CLOCK, Call.DIRTY, Call.WAITING};
        for (Call call : ofOne) {
            steps.add(new Step(call, a));
        }
    }

    private static void addOfTwo(List<Step> steps, int a, int b) {
        for (Call call : new Call[] {Call.CLOSE, Call.LEASE, Call.HELD, Call.STORED}) {
            steps.add(new Step(call, a, b));
        }
    }
}
