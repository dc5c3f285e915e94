import java.util.function.Consumer;
import java.util.function.Supplier;

/** Sentences of "What it is" and of the Terms that only whole or long runs show. */
public final class TermsTest {
    /** As far as 400 calls go, which leaves an object 112 to be asked with. */
    private static final int FAR = 400 * 64;

    public static void main(String[] args) {
        sumsAndProductsAreFloats();
        aStepInItsOrder();
        driftToItsOwnCell();
        inputsBelongToTheirStep();
        inputsStayHoweverFarTGoes();
        inputsOfAFarStep();
        snapshotsAreOfDifferentSteps();
        snapshotsOfFarSteps();
        lateByManySteps();
        lateInAnyOrder();
        Check.end();
    }

    /** "NUMBERS are floats; each sum and product is made as it is written here." */
    private static void sumsAndProductsAreFloats() {
        StateKeeper x = new StateKeeper(2);
        x.input(0, 0, 40000f);
        // Each alone is lost beside 40000; together, in anything wider, they would not be.
        x.inputs(0, 0, 100, 1, 0.001f);
        float a = 1f + 1f / 4096;
        x.input(1, 0, a);
        x.input(1, 2, a);
        // The product loses its last bit before the sum is made.
        x.input(1, 1, -(1f + 1f / 2048));
        x.step(1);
        Check.due("small sums", 40000f, x.cell(0));
        Check.due("a product, then a sum", 0f, x.cell(1));
    }

    /** "A STEP: the inputs of step T .. in their order; then each drift in its order .." */
    private static void aStepInItsOrder() {
        StateKeeper x = new StateKeeper(3);
        x.drift(0, 1, 2f);
        x.drift(1, 2, 0.5f);
        x.every(1);
        x.input(0, 0, 3f);
        x.input(0, 1, 1f);
        x.input(0, 2, 2f);
        Check.due("before the step", 0, x.count(7));
        x.step(1);
        row("behind one step", x, 8f, 16f, 8f);
        x.step(1);
        row("behind two", x, 8f, 32f, 24f);
        keptRow(x, 0, 0f, 0f, 0f);
        keptRow(x, 1, 8f, 16f, 8f);
        keptRow(x, 2, 8f, 32f, 24f);
    }

    /** "the cell to becomes to + from * factor, held", where both are the same cell. */
    private static void driftToItsOwnCell() {
        Check.due("it doubles", 6f, driftedToItself(3f, 1f));
        Check.due("it goes to 0", 0f, driftedToItself(3f, -1f));
        Check.due("up to the bound", 65536f, driftedToItself(32768f, 1f));
        Check.due("beyond it", 65536f, driftedToItself(65536f, 4f));
        Check.due("beyond it, below", -65536f, driftedToItself(-65536f, 4f));
        Check.due("from one side to the other", -65536f, driftedToItself(65536f, -4f));
        // The cell times (1 + factor), which is 1 in floats, would leave it as it is.
        Check.due("a product and a sum", 2f,
                driftedToItself(Math.nextDown(2f), 1f / (1 << 24)));
    }

    /** "INPUTS .. belong to a step": another step does none of them. */
    private static void inputsBelongToTheirStep() {
        StateKeeper x = new StateKeeper(1);
        x.step(2);
        x.input(0, 1, 1f);
        x.back(0);
        Check.due("at 0 there is none", 0, x.count(4));
        x.step(2);
        Check.due("not done by 0 and 1", 0f, x.cell(0));
        x.step(1);
        Check.due("done by 2", 1f, x.cell(0));
        x.step(64);
        Check.due("and by no other", 1f, x.cell(0));
    }

    /** Only a dropped snapshot and forget() take something out of the record. */
    private static void inputsStayHoweverFarTGoes() {
        StateKeeper x = new StateKeeper(1);
        x.input(0, 1, 5f);
        goFar(x);
        Check.due("it is still there", 1, x.count(3));
        Check.due("its number", 5f, x.recorded(0, 0));
        Check.due("done once", 5f, x.cell(0));
        x.back(0);
        x.step(1);
        Check.due("done once more", 5f, x.cell(0));
    }

    private static void inputsOfAFarStep() {
        StateKeeper x = new StateKeeper(1);
        goFar(x);
        Check.due("input", 1, x.input(0, 1, 5f));
        Check.due("its number", 5f, x.recorded(FAR, 0));
        Check.dueThrow("none of the step before", Check.INDEX, () -> x.recorded(FAR - 1, 0));
        Check.due("late, of the same step", 0, x.late(FAR, 0, 2, 3f));
        x.step(1);
        Check.due("both are done", 15f, x.cell(0));
        x.back(0);
        Check.due("both lie ahead", 2, x.count(3));
        Check.due("forget() behind them", 0, x.forget(FAR + 1));
        Check.due("forget() of them", 2, x.forget(FAR));
    }

    /** "SNAPSHOTS, at most 16, are of different steps", whichever call keeps them. */
    private static void snapshotsAreOfDifferentSteps() {
        StateKeeper x = new StateKeeper(1);
        x.every(2);
        x.keep();
        for (int k = 0; k < 12; k++) {
            x.step(3);
            x.keep();
            x.late(x.count(0) - 3, 0, 1, 1f);
            x.keep();
            x.back(x.snapshot(x.count(2) - 2));
            x.step(2);
            x.keep();
            rising("round " + k, x);
        }
        Check.due("as many as there can be", 16, x.count(2));
    }

    private static void rising(String name, StateKeeper x) {
        int size = x.count(2);
        int before = StateKeeper.NONE;
        for (int k = 0; k < size; k++) {
            int step = x.snapshot(k);
            if (step <= before) {
                Check.report(name + ": snapshot(" + k + ") is not above the one before");
            }
            before = step;
        }
        Check.due(name + ": the highest is that of T", x.count(0), before);
    }

    /** "all cells as they were at that T": the cell counts the steps. */
    private static void snapshotsOfFarSteps() {
        StateKeeper x = counting();
        x.every(100);
        goFar(x);
        Check.due("snapshots", 16, x.count(2));
        for (int k = 0; k < 16; k++) {
            int step = FAR - 1500 + 100 * k;
            Check.due("snapshot(" + k + ")", step, x.snapshot(k));
            Check.due("kept", (float) step, x.kept(step, 1));
        }
        Check.dueThrow("late() below them", Check.STATE, () -> x.late(FAR - 1501, 0, 1, 1f));
        Check.due("late() of the lowest", 1500, x.late(FAR - 1500, 0, 1, 1f));
        Check.due("T", FAR, x.count(0));
        Check.due("two at each step since", FAR + 1500f, x.cell(1));
        Check.due("back()", 5, x.back(FAR - 500));
        Check.due("T then", FAR - 500, x.count(0));
        Check.due("the cell then", FAR + 500f, x.cell(1));
    }

    /** "all steps since are done again", also more of them than one step() takes. */
    private static void lateByManySteps() {
        for (int calls : new int[] {1, 2, 3, 400}) {
            int t = 64 * calls;
            StateKeeper x = counting();
            for (int k = 0; k < calls; k++) {
                x.step(64);
            }
            Check.due("late(0) at " + t, t, x.late(0, 0, 1, 1f));
            Check.due("T", t, x.count(0));
            Check.due("steps in all", 2 * t, x.count(6));
            Check.due("two at each step", 2f * t, x.cell(1));
            Check.due("late(1)", t, x.late(1, 0, 0, 1f));
            Check.due("two at the first, one at the others", t + 1f, x.cell(1));
        }
    }

    /** "to the last bit as if it had come in time", in whatever order the late ones come. */
    private static void lateInAnyOrder() {
        Supplier<StateKeeper> inTime = Check.then(TermsTest::flowing, x -> {
            for (int t = 0; t < 30; t++) {
                x.input(t % 3, t % 2 + 1, number(t));
                x.step(1);
            }
        });
        String due = Seen.standingOf(inTime);
        Check.due("late, from the first on", due, Seen.standingOf(allLate(x -> {
            for (int t = 0; t < 30; t++) {
                x.late(t, t % 3, t % 2 + 1, number(t));
            }
        })));
        Check.due("late, from the last on", due, Seen.standingOf(allLate(x -> {
            for (int t = 29; t >= 0; t--) {
                x.late(t, t % 3, t % 2 + 1, number(t));
            }
        })));
        Check.due("late, to and fro", due, Seen.standingOf(allLate(x -> {
            for (int k = 0; k < 30; k++) {
                int t = 7 * k % 30;
                x.late(t, t % 3, t % 2 + 1, number(t));
            }
        })));
    }

    private static Supplier<StateKeeper> allLate(Consumer<StateKeeper> inputs) {
        return Check.then(TermsTest::flowing, x -> {
            x.step(30);
            inputs.accept(x);
        });
    }

    private static float number(int t) {
        return t % 2 == 0 ? 3.7f + t : 1.3f - 0.07f * t;
    }

    private static StateKeeper flowing() {
        StateKeeper x = new StateKeeper(3);
        x.drift(0, 1, 0.3f);
        x.drift(1, 2, -0.7f);
        x.drift(2, 0, 0.1f);
        x.every(4);
        return x;
    }

    /** Cell 1 counts the steps, by the 1 in cell 0. */
    private static StateKeeper counting() {
        StateKeeper x = new StateKeeper(2);
        x.drift(0, 1, 1f);
        x.input(0, 0, 1f);
        return x;
    }

    private static void goFar(StateKeeper x) {
        for (int t = 0; t < FAR; t += 64) {
            x.step(64);
        }
    }

    private static float driftedToItself(float first, float factor) {
        StateKeeper x = new StateKeeper(1);
        x.drift(0, 0, factor);
        x.input(0, 0, first);
        x.step(1);
        return x.cell(0);
    }

    private static void row(String name, StateKeeper x, float... due) {
        for (int i = 0; i < due.length; i++) {
            Check.due(name + ": cell(" + i + ")", due[i], x.cell(i));
        }
    }

    private static void keptRow(StateKeeper x, int step, float... due) {
        for (int i = 0; i < due.length; i++) {
            Check.due("kept(" + step + ", " + i + ")", due[i], x.kept(step, i));
        }
    }
}
