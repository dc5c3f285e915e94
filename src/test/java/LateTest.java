import java.util.function.Supplier;

/** Promise 10: late. */
public final class LateTest {
    public static void main(String[] args) {
        asIfInTime();
        behindThoseOfItsStep();
        atPresent();
        fromHighestSnapshotNotAbove();
        dropsLaterSnapshots();
        dropsRecordWhileSteppingAgain();
        Check.end();
    }

    private static void asIfInTime() {
        for (int step = 0; step <= 40; step++) {
            int s = step;
            Supplier<StateKeeper> inTime = Check.then(LateTest::world, x -> run(x, s, true));
            Supplier<StateKeeper> afterwards = Check.then(LateTest::world, x -> {
                run(x, s, false);
                x.late(s, 2, 1, 17.3f);
            });
            Check.due("cells, snapshots and record with a late input of step " + step,
                    Seen.standingOf(inTime), Seen.standingOf(afterwards));
            Check.due("T", 40, afterwards.get().count(0));
        }
    }

    private static StateKeeper world() {
        StateKeeper x = new StateKeeper(4);
        x.drift(0, 1, 0.1f);
        x.drift(1, 2, -0.3f);
        x.drift(2, 0, 0.7f);
        x.drift(3, 3, -0.01f);
        x.every(7);
        return x;
    }

    private static void run(StateKeeper x, int step, boolean inTime) {
        for (int t = 0; t <= 40; t++) {
            if (t % 5 == 0) {
                x.inputs(0, 1, 4, t % 3, 1.1f + t);
            }
            if (inTime && t == step) {
                x.input(2, 1, 17.3f);
            }
            if (t < 40) {
                x.step(1);
            }
        }
    }

    private static void behindThoseOfItsStep() {
        StateKeeper x = new StateKeeper(1);
        x.input(0, 0, 5f);
        x.step(1);
        x.input(0, 1, 1f);
        x.step(1);
        Check.due("late(0)", 2, x.late(0, 0, 2, 3f));
        Check.due("recorded(0, 0)", 5f, x.recorded(0, 0));
        Check.due("recorded(0, 1)", 3f, x.recorded(0, 1));
        Check.due("record(0, 1, 1)", 2, x.record(0, 1, 1));
        Check.due("recorded(1, 0)", 1f, x.recorded(1, 0));
        Check.due("cell(0)", 16f, x.cell(0));
        Check.due("late(0) again", 2, x.late(0, 0, 1, 4f));
        Check.due("cell(0) then", 20f, x.cell(0));
        Check.due("steps in all", 6, x.count(6));
    }

    private static void atPresent() {
        StateKeeper x = new StateKeeper(2);
        Check.due("late(0) at step 0", 0, x.late(0, 0, 0, 4f));
        x.step(3);
        x.keep();
        Check.due("late(3) at step 3", 0, x.late(3, 0, 1, 4f));
        Check.due("one of the present step", 1, x.count(4));
        Check.due("no step was done", 3, x.count(6));
        Check.due("the snapshot stays", 2, x.count(2));
        Check.due("the cell waits", 4f, x.cell(0));
        x.step(1);
        Check.due("the cell then", 8f, x.cell(0));
        // No snapshot of step 4: a late input of T must not step from that of 3.
        Check.due("late(4) at step 4", 0, x.late(4, 0, 1, 1f));
        Check.due("still no step was done again", 4, x.count(6));
    }

    private static void fromHighestSnapshotNotAbove() {
        StateKeeper x = new StateKeeper(1);
        x.every(10);
        x.step(35);
        Check.due("late(34)", 5, x.late(34, 0, 1, 1f));
        Check.due("late(30)", 5, x.late(30, 0, 1, 1f));
        Check.due("late(29)", 15, x.late(29, 0, 1, 1f));
        Check.due("late(9)", 35, x.late(9, 0, 1, 1f));
        Check.due("late(0)", 35, x.late(0, 0, 1, 1f));
        Check.due("cell(0)", 5f, x.cell(0));
        Check.due("kept(30, 0)", 3f, x.kept(30, 0));
        Check.due("kept(20, 0)", 2f, x.kept(20, 0));
        Check.due("T", 35, x.count(0));
        Check.due("steps in all", 130, x.count(6));
    }

    private static void dropsLaterSnapshots() {
        StateKeeper x = new StateKeeper(1);
        for (int t = 0; t < 5; t++) {
            x.step(1);
            x.keep();
        }
        Check.due("late(2)", 3, x.late(2, 0, 0, 9f));
        Check.due("those of 3, 4, 5 are gone", 3, x.count(2));
        Check.due("the highest is that of 2", 2, x.snapshot(2));
        Check.due("and not changed", 0f, x.kept(2, 0));
        x.every(2);
        Check.due("late(1)", 4, x.late(1, 0, 1, 1f));
        Check.due("that of 2 and 4 are made by every", 4, x.count(2));
        Check.due("kept(2, 0)", 1f, x.kept(2, 0));
        Check.due("kept(4, 0)", 9f, x.kept(4, 0));
    }

    /** A narrower EVERY makes the steps done again keep more snapshots than there were. */
    private static void dropsRecordWhileSteppingAgain() {
        StateKeeper x = new StateKeeper(1);
        for (int t = 0; t < 40; t++) {
            x.input(0, 1, 1f);
            x.step(1);
        }
        x.every(1);
        Check.due("late(3)", 40, x.late(3, 0, 1, 0.5f));
        Check.due("every input was put in", 40.5f, x.cell(0));
        Check.due("16 snapshots", 16, x.count(2));
        Check.due("the lowest is that of 25", 25, x.snapshot(0));
        Check.due("the record from 25 on", 15, x.count(3));
        Check.dueThrow("record(24, 0, 0)", Check.INDEX, () -> x.record(24, 0, 0));
        Check.due("recorded(25, 0)", 1f, x.recorded(25, 0));
        Check.dueThrow("late(24)", Check.STATE, () -> x.late(24, 0, 0, 0f));
    }
}
