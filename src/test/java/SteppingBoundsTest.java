import java.util.function.Supplier;

/** The boundary cases of promises 6 to 9: step, keep, back, forget. */
public final class SteppingBoundsTest {
    private static final int MIN = Integer.MIN_VALUE;
    private static final int MAX = Integer.MAX_VALUE;

    public static void main(String[] args) {
        stepsWithin();
        stepsBeyond();
        stepsDoTheInputsOfTheirOwnStep();
        keepCounts();
        keepOfAKeptStep();
        backToTheHighest();
        backToTheLowest();
        backToOneBetween();
        backOnASingleSnapshot();
        backWhereThereIsNone();
        backToADroppedOne();
        forgetFromT();
        forgetBehindT();
        forgetNothing();
        forgetBelowT();
        Check.end();
    }

    /** "So many steps: T then.", n at and within the bounds of 1 .. 64 */
    private static void stepsWithin() {
        for (int n : new int[] {1, 2, 63, 64}) {
            StateKeeper x = new StateKeeper(2);
            x.drift(0, 1, 1f);
            x.input(0, 0, 1f);
            Check.due("step(" + n + ")", n, x.step(n));
            Check.due("T", n, x.count(0));
            Check.due("steps in all", n, x.count(6));
            Check.due("so many were done", (float) n, x.cell(1));
            Check.due("step(" + n + ") again", 2 * n, x.step(n));
            Check.due("so many were done in all", 2f * n, x.cell(1));
        }
    }

    /** "IllegalArgumentException: n is not 1 .. 64." */
    private static void stepsBeyond() {
        for (int n : new int[] {0, -1, -64, 65, 66, 128, MIN, MAX}) {
            Check.refusedInAll("step(" + n + ")", Check.ARGUMENT, x -> x.step(n));
        }
    }

    /** "the inputs of step T are done": neither those of the step before nor of the step behind. */
    private static void stepsDoTheInputsOfTheirOwnStep() {
        StateKeeper x = new StateKeeper(1);
        for (int t = 0; t < 3; t++) {
            x.keep();
            x.input(0, 1, 1 << (4 * t));
            x.step(1);
        }
        x.back(1);
        Check.due("at 1, that of 0 is done", 1f, x.cell(0));
        x.step(1);
        Check.due("at 2, that of 1 is done, too", 17f, x.cell(0));
        x.step(1);
        Check.due("at 3, all are done", 273f, x.cell(0));
        x.step(1);
        Check.due("at 4, there was none", 273f, x.cell(0));
        Check.due("all stay in the record", 3, x.count(3));
    }

    /** "Keeps a snapshot: how many there are.", up to 16 and no more */
    private static void keepCounts() {
        StateKeeper x = new StateKeeper(1);
        Check.due("keep() at 0", 1, x.keep());
        for (int t = 1; t <= 20; t++) {
            x.step(1);
            Check.due("keep() at " + t, Math.min(t + 1, 16), x.keep());
            Check.due("the lowest at " + t, Math.max(t - 15, 0), x.snapshot(0));
            Check.due("the highest at " + t, t, x.snapshot(Math.min(t, 15)));
        }
    }

    /** "one of this T is replaced": with one, with 15 and with 16 of them. */
    private static void keepOfAKeptStep() {
        for (int t : new int[] {0, 14, 15, 16, 40}) {
            Supplier<StateKeeper> world = Check.then(World.NEW, x -> {
                x.every(1);
                x.input(0, 0, 1f);
                for (int left = t; left > 0; left--) {
                    x.input(0, 1, 1f);
                    x.step(1);
                }
                x.input(0, 1, 1f);
            });
            Check.due("keep() at " + t, Math.min(t + 1, 16), world.get().keep());
            Check.due("the state behind keep() at " + t, Seen.of(world),
                    Seen.of(Check.then(world, StateKeeper::keep)));
        }
    }

    /** "snapshots of later steps are dropped": that of the step itself is none of them. */
    private static void backToTheHighest() {
        StateKeeper x = World.BEGUN.get();
        Check.due("back(4)", 0, x.back(4));
        Check.due("T", 4, x.count(0));
        Check.due("snapshots", 3, x.count(2));
        Check.due("as it was kept", StateKeeper.NONE, x.differs(4));
        Check.due("the record stays", 5, x.count(3));
        Check.due("its own input waits", 1, x.count(4));
        Check.due("back(4) at 4", 0, x.back(4));
        Check.due("T stays", 4, x.count(0));
        Check.due("and the world goes on as it went", Seen.standingOf(World.BEGUN),
                Seen.standingOf(Check.then(World.BEGUN, o -> {
                    o.back(4);
                    o.step(1);
                })));
    }

    private static void backToTheLowest() {
        StateKeeper x = World.FULL_SNAPSHOTS.get();
        Check.due("back(5)", 15, x.back(5));
        Check.due("T", 5, x.count(0));
        Check.due("snapshots", 1, x.count(2));
        Check.due("snapshot(0)", 5, x.snapshot(0));
        Check.dueThrow("snapshot(1)", Check.INDEX, () -> x.snapshot(1));
        Check.due("the record stays", 16, x.count(3));
        Check.due("steps in all stay", 20, x.count(6));
        x.step(15);
        Check.due("16 are kept again", 16, x.count(2));
        Check.due("none was dropped for them", 16, x.count(3));
        Check.due("steps in all", 35, x.count(6));
        Check.due("cells, snapshots and record are as they were",
                Seen.standingOf(World.FULL_SNAPSHOTS),
                Seen.standingOf(Check.then(World.FULL_SNAPSHOTS, o -> {
                    o.back(5);
                    o.step(15);
                })));
    }

    private static void backToOneBetween() {
        for (int step = 5; step <= 20; step++) {
            StateKeeper x = World.FULL_SNAPSHOTS.get();
            float due = x.kept(step, 1);
            Check.due("back(" + step + ")", 20 - step, x.back(step));
            Check.due("T", step, x.count(0));
            Check.due("snapshots", step - 4, x.count(2));
            Check.due("the highest", step, x.snapshot(step - 5));
            Check.due("cell(1)", due, x.cell(1));
            Check.due("its input waits", 1, x.count(4));
            Check.due("the last input stays", 1f, x.recorded(20, 0));
        }
    }

    /** "At first there is one of step 0." */
    private static void backOnASingleSnapshot() {
        StateKeeper x = new StateKeeper(3);
        Check.due("back(0) at 0", 0, x.back(0));
        x.inputs(0, 1, 3, 0, 9f);
        x.step(64);
        Check.due("back(0) at 64", 0, x.back(0));
        Check.due("T", 0, x.count(0));
        Check.due("cells that are not 0", 0, x.count(7));
        Check.due("EVERY stays", 0, x.every(0));
    }

    /** "IndexOutOfBoundsException: there is none of this step.", of T neither. */
    private static void backWhereThereIsNone() {
        for (int step : new int[] {-1, 1, 3, 5, 6, 16, MIN, MAX}) {
            Check.refused(World.BEGUN, "back(" + step + ")", Check.INDEX, x -> x.back(step));
        }
        for (int step : new int[] {4, 3, -1, 0, 21, MIN, MAX}) {
            Check.refused(World.FULL_SNAPSHOTS, "back(" + step + ")", Check.INDEX,
                    x -> x.back(step));
        }
        for (int step : new int[] {-1, 1, MIN, MAX}) {
            Check.refused(World.NEW, "back(" + step + ")", Check.INDEX, x -> x.back(step));
        }
    }

    /** The later ones that going back has dropped, though the record still has their inputs. */
    private static void backToADroppedOne() {
        Check.refused(World.WENT_BACK, "back(4)", Check.INDEX, x -> x.back(4));
        Check.refused(Check.then(World.FULL_SNAPSHOTS, x -> x.back(19)), "back(20)", Check.INDEX,
                x -> x.back(20));
        Check.refused(Check.then(World.FULL_SNAPSHOTS, x -> x.back(5)), "back(6)", Check.INDEX,
                x -> x.back(6));
    }

    /** "What is in the record for steps from this one on is dropped", from T on the most. */
    private static void forgetFromT() {
        StateKeeper x = World.WENT_BACK.get();
        Check.due("forget(2) at 2", 3, x.forget(2));
        Check.due("those of 0 and 1 stay", 2, x.count(3));
        Check.due("that of 1", 2.5f, x.recorded(1, 0));
        Check.due("none of T", 0, x.count(4));
        Check.dueThrow("record(2, 0, 0)", Check.INDEX, () -> x.record(2, 0, 0));
        StateKeeper full = World.FULL_RECORD.get();
        Check.due("forget(2) of 512", 156, full.forget(2));
        full.back(1);
        Check.due("forget(1)", 100, full.forget(1));
        full.back(0);
        Check.due("forget(0)", 256, full.forget(0));
        Check.due("none are left", 0, full.count(3));
    }

    private static void forgetBehindT() {
        StateKeeper x = World.WENT_BACK.get();
        Check.due("forget(6), behind the last", 0, x.forget(6));
        Check.due("forget(MAX)", 0, x.forget(MAX));
        Check.due("forget(5), the last", 1, x.forget(5));
        Check.due("forget(5) again", 0, x.forget(5));
        Check.due("forget(3), one of 4", 1, x.forget(3));
        Check.due("that of T stays", 1, x.count(4));
        Check.due("three are left", 3, x.count(3));
    }

    /** An empty record, or one with nothing from there on. */
    private static void forgetNothing() {
        Check.due("forget(0) of none", 0, new StateKeeper(1).forget(0));
        StateKeeper x = new StateKeeper(1);
        x.input(0, 0, 1f);
        x.step(1);
        Check.due("forget(1) with one of 0", 0, x.forget(1));
        Check.due("it stays", 1, x.count(3));
    }

    /** "IllegalArgumentException: step is below T." */
    private static void forgetBelowT() {
        refusedForget(World.NEW, 0);
        refusedForget(World.FULL_DRIFTS, 0);
        refusedForget(World.WENT_BACK, 2);
        refusedForget(World.FULL_RECORD, 2);
        refusedForget(World.BEGUN, 5);
        refusedForget(World.FULL_SNAPSHOTS, 20);
    }

    private static void refusedForget(World world, int t) {
        for (int step : new int[] {t - 1, t - 2, -1, MIN}) {
            Check.refused(world, world + ": forget(" + step + ")", Check.ARGUMENT,
                    x -> x.forget(step));
        }
        if (t > 0) {
            Check.refused(world, world + ": forget(0)", Check.ARGUMENT, x -> x.forget(0));
        }
        Check.due(world + ": forget(T) is not refused", world.get().count(3) - before(world, t),
                world.get().forget(t));
    }

    /** The inputs of steps before T. */
    private static int before(World world, int t) {
        StateKeeper x = world.get();
        int found = 0;
        for (int step = 0; step < t; step++) {
            for (int k = 0; has(x, step, k); k++) {
                found++;
            }
        }
        return found;
    }

    private static boolean has(StateKeeper x, int step, int k) {
        return Check.thrownBy(() -> x.recorded(step, k)) == null;
    }
}
