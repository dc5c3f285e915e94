import java.util.function.Supplier;

/** The boundary cases of promise 10: late. */
public final class LateBoundsTest {
    private static final int MIN = Integer.MIN_VALUE;
    private static final int MAX = Integer.MAX_VALUE;

    public static void main(String[] args) {
        stepWithin();
        stepBeyond();
        ofT();
        ofTheStepBeforeT();
        fromTheSnapshotOfItsStep();
        fromTheSnapshotBelowItsStep();
        noSnapshotNotAboveIt();
        ofACell();
        ways();
        numbers();
        atMost512();
        laterSnapshotsAreDropped();
        recordIsDroppedOnTheWay();
        lateInputIsDroppedItself();
        laterInputsThanTStay();
        Check.end();
    }

    /** "step is not 0 .. T", within and at the bounds. */
    private static void stepWithin() {
        Check.due("late(0) at 0", 0, World.NEW.get().late(0, 0, 1, 1f));
        int[] again = {5, 5, 3, 3, 1, 0};
        for (int step = 0; step <= 5; step++) {
            StateKeeper x = World.BEGUN.get();
            Check.due("late(" + step + ") at 5", again[step], x.late(step, 0, 1, 1f));
            Check.due("T", 5, x.count(0));
            Check.due("steps in all", 5 + again[step], x.count(6));
            Check.due("one more in the record", 6, x.count(3));
            Check.due("behind those of its step", 1f, x.recorded(step, step == 3 ? 0 : 1));
        }
    }

    /** "IllegalArgumentException: .. step is not 0 .. T." */
    private static void stepBeyond() {
        for (World world : World.values()) {
            int t = world.get().count(0);
            for (int step : new int[] {-1, -2, t + 1, t + 2, MIN, MAX}) {
                Check.refused(world, world + ": late(" + step + ")", Check.ARGUMENT,
                        x -> x.late(step, 0, 1, 1f));
            }
        }
    }

    /** "if the step is before T, the world goes back": with T it does not. */
    private static void ofT() {
        Supplier<StateKeeper> byInput = Check.then(World.BEGUN, x -> x.input(1, 2, -2f));
        Supplier<StateKeeper> byLate = Check.then(World.BEGUN, x -> x.late(5, 1, 2, -2f));
        Check.due("late(T) is as input()", Seen.of(byInput), Seen.of(byLate));
        StateKeeper x = new StateKeeper(1);
        x.input(0, 0, 3f);
        x.step(1);
        x.keep();
        Check.due("late(1) at 1, kept", 0, x.late(1, 0, 1, 1f));
        Check.due("its snapshot stays", 2, x.count(2));
        Check.due("the cell waits", 3f, x.cell(0));
        x.back(0);
        Check.due("late(0) at 0, back there", 0, x.late(0, 0, 1, 4f));
        Check.due("no step was done", 1, x.count(6));
        Check.due("none dropped", 1, x.count(2));
        x.step(2);
        Check.due("both are put in", 8f, x.cell(0));
    }

    private static void ofTheStepBeforeT() {
        StateKeeper x = new StateKeeper(1);
        x.every(1);
        x.step(6);
        Check.due("late(5) at 6", 1, x.late(5, 0, 0, 2f));
        Check.due("the cell", 2f, x.cell(0));
        Check.due("kept(5, 0)", 0f, x.kept(5, 0));
        Check.due("kept(6, 0), kept again", 2f, x.kept(6, 0));
        Check.due("snapshots", 7, x.count(2));
        Check.due("steps in all", 7, x.count(6));
    }

    /** "the snapshot of the highest step that is not above it": one of the step itself is. */
    private static void fromTheSnapshotOfItsStep() {
        StateKeeper x = tens();
        Check.due("late(20) at 35", 15, x.late(20, 0, 0, 2f));
        Check.due("kept(20, 0) is from before it", 0f, x.kept(20, 0));
        Check.due("kept(30, 0) is from behind it", 2f, x.kept(30, 0));
        Check.due("late(0) at 35", 35, tens().late(0, 0, 0, 2f));
        Check.due("late(30) at 35", 5, tens().late(30, 0, 0, 2f));
    }

    private static void fromTheSnapshotBelowItsStep() {
        Check.due("late(19) at 35", 25, tens().late(19, 0, 0, 2f));
        Check.due("late(21) at 35", 15, tens().late(21, 0, 0, 2f));
        Check.due("late(29) at 35", 15, tens().late(29, 0, 0, 2f));
        Check.due("late(31) at 35", 5, tens().late(31, 0, 0, 2f));
        Check.due("late(34) at 35", 5, tens().late(34, 0, 0, 2f));
        Check.due("late(9) at 35", 35, tens().late(9, 0, 0, 2f));
        Check.due("late(1) at 35", 35, tens().late(1, 0, 0, 2f));
    }

    /** T is 35; snapshots of 0, 10, 20 and 30. */
    private static StateKeeper tens() {
        StateKeeper x = new StateKeeper(1);
        x.every(10);
        x.step(35);
        return x;
    }

    /** "IllegalStateException: .. there is no such snapshot." */
    private static void noSnapshotNotAboveIt() {
        for (int step : new int[] {0, 1, 3, 4}) {
            Check.refused(World.FULL_SNAPSHOTS, "late(" + step + ") below 5", Check.STATE,
                    x -> x.late(step, 0, 1, 1f));
        }
        StateKeeper x = World.FULL_SNAPSHOTS.get();
        Check.due("late(5), of the lowest", 15, x.late(5, 0, 1, 1f));
        Check.due("none was dropped for it", 17, x.count(3));
        Check.due("and there are 16 again", 16, x.count(2));
        Check.due("late(6)", 14, World.FULL_SNAPSHOTS.get().late(6, 0, 1, 1f));
    }

    /** "IndexOutOfBoundsException: no such cell" */
    private static void ofACell() {
        for (int n : new int[] {1, 2, 64, 255, 256}) {
            StateKeeper x = new StateKeeper(n);
            x.step(1);
            Check.due("late of 0, of " + n, 1, x.late(0, 0, 1, 1f));
            Check.due("late of the last, of " + n, 1, x.late(0, n - 1, 1, 1f));
            Check.dueThrow("late of n, of " + n, Check.INDEX, () -> x.late(0, n, 1, 1f));
            Check.dueThrow("late of -1, of " + n, Check.INDEX, () -> x.late(0, -1, 1, 1f));
            Check.due("the last cell", n == 1 ? 2f : 1f, x.cell(n - 1));
        }
        for (int cell : new int[] {-1, 3, 256, MIN, MAX}) {
            Check.refusedInAll("late(0, " + cell + ")", Check.INDEX, x -> x.late(0, cell, 1, 1f));
        }
    }

    /** "IllegalArgumentException: way .. as with input()" */
    private static void ways() {
        float[] due = {3f, 8f, 15f};
        for (int way = 0; way <= 2; way++) {
            StateKeeper x = new StateKeeper(1);
            x.input(0, 0, 5f);
            x.step(1);
            Check.due("late with way " + way, 1, x.late(0, 0, way, 3f));
            Check.due("the cell with way " + way, due[way], x.cell(0));
        }
        for (int way : new int[] {-1, 3, 4, MIN, MAX}) {
            Check.refusedInAll("late with way " + way, Check.ARGUMENT, x -> x.late(0, 0, way, 1f));
        }
    }

    /** "IllegalArgumentException: .. v as with input()" */
    private static void numbers() {
        float[] fine = {-65536f, Math.nextUp(-65536f), -0f, 0f, Float.MIN_VALUE,
            Math.nextDown(65536f), 65536f};
        for (float v : fine) {
            StateKeeper x = new StateKeeper(1);
            x.step(1);
            Check.due("late with " + v, 1, x.late(0, 0, 0, v));
            Check.due("recorded", v, x.recorded(0, 0));
            Check.due("the cell", v + 0f, x.cell(0));
        }
        float[] wrong = {Math.nextDown(-65536f), Math.nextUp(65536f), -Float.MAX_VALUE,
            Float.MAX_VALUE, Float.NEGATIVE_INFINITY, Float.POSITIVE_INFINITY, Float.NaN};
        for (float v : wrong) {
            Check.refusedInAll("late with " + v, Check.ARGUMENT, x -> x.late(0, 0, 0, v));
        }
    }

    /** "IllegalStateException: 512 are in the record" */
    private static void atMost512() {
        StateKeeper x = World.FULL_RECORD.get();
        x.forget(2);
        x.inputs(2, 0, 154, 1, 0.5f);
        Check.due("late input 511", 2, x.late(0, 0, 1, 1f));
        Check.due("late input 512, of T", 0, x.late(2, 0, 1, 1f));
        Check.due("512 in the record", 512, x.count(3));
        for (int step = 0; step <= 2; step++) {
            int s = step;
            Check.dueThrow("late input 513", Check.STATE, () -> x.late(s, 0, 1, 1f));
            Check.refused(World.FULL_RECORD, "late input 513, of " + s, Check.STATE,
                    o -> o.late(s, 0, 1, 1f));
        }
        // Stepping again would drop those of step 0, but 512 are there when the call comes.
        Check.refused(Check.then(World.FULL_RECORD, o -> {
            o.step(30);
            o.every(1);
        }), "late input 513, with room to come", Check.STATE, o -> o.late(1, 0, 1, 1f));
    }

    /** "(later ones are dropped)": also those that keep() made, which no step makes again. */
    private static void laterSnapshotsAreDropped() {
        StateKeeper x = new StateKeeper(1);
        for (int t = 1; t <= 5; t++) {
            x.step(1);
            x.keep();
        }
        Check.due("late(4) at 5", 1, x.late(4, 0, 1, 1f));
        Check.due("that of 5 is gone, that of 4 stays", 5, x.count(2));
        Check.due("the highest", 4, x.snapshot(4));
        Check.due("late(5) at 5", 0, x.late(5, 0, 1, 1f));
        Check.due("none dropped with T", 5, x.count(2));
        Check.due("late(0) at 5", 5, x.late(0, 0, 1, 1f));
        Check.due("only that of 0 stays", 1, x.count(2));
        Check.due("the cell", 2f, x.cell(0));
    }

    /** The steps done again keep as EVERY says now, and what they drop is gone. */
    private static void recordIsDroppedOnTheWay() {
        for (int t = 15; t <= 18; t++) {
            StateKeeper x = new StateKeeper(1);
            for (int k = 0; k < t; k++) {
                x.input(0, 1, 1f);
                x.step(1);
            }
            x.every(1);
            String name = "late at " + t + ": ";
            int lowest = t - 15;
            Check.due(name + "steps", t, x.late(t - 1, 0, 1, 0.5f));
            Check.due(name + "the cell", t + 0.5f, x.cell(0));
            Check.due(name + "snapshots", 16, x.count(2));
            Check.due(name + "the lowest", lowest, x.snapshot(0));
            Check.due(name + "the record", t + 1 - lowest, x.count(3));
            Check.due(name + "that of the lowest stays", 1f, x.recorded(lowest, 0));
            Check.dueThrow(name + "that below is gone", Check.INDEX,
                    () -> x.recorded(lowest - 1, 0));
        }
    }

    private static void lateInputIsDroppedItself() {
        StateKeeper x = new StateKeeper(1);
        x.step(16);
        x.every(1);
        Check.due("late(0) at 16", 16, x.late(0, 0, 1, 7f));
        Check.due("it was put in", 7f, x.cell(0));
        Check.due("and went with the snapshot of 0", 0, x.count(3));
        Check.due("kept(1, 0)", 7f, x.kept(1, 0));
        Check.dueThrow("late(0) once more", Check.STATE, () -> x.late(0, 0, 1, 7f));
        StateKeeper y = new StateKeeper(1);
        y.step(15);
        y.every(1);
        Check.due("late(0) at 15", 15, y.late(0, 0, 1, 7f));
        Check.due("it stays in the record", 1, y.count(3));
    }

    /** "and steps until T is what it was": what lies in the record from T on waits. */
    private static void laterInputsThanTStay() {
        StateKeeper x = World.WENT_BACK.get();
        Check.due("late(1) at 2", 2, x.late(1, 0, 1, 8f));
        Check.due("T", 2, x.count(0));
        Check.due("that of T waits", 1, x.count(4));
        Check.due("those of 4 and 5 wait", 6, x.count(3));
        Check.due("that of 5", 3f, x.recorded(5, 0));
        Check.due("EVERY has kept 2 again", 2, x.snapshot(1));
        Check.due("as the world is", StateKeeper.NONE, x.differs(2));
    }
}
