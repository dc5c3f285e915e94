import java.util.function.Consumer;
import java.util.function.Supplier;

/** The boundary cases of promises 11 to 18, the calls that only read. */
public final class ReadingBoundsTest {
    private static final int MIN = Integer.MIN_VALUE;
    private static final int MAX = Integer.MAX_VALUE;
    private static final int[] NO_CELLS = {-1, 3, 4, 64, 256, MIN, MAX};

    public static void main(String[] args) {
        cellOfTheRow();
        cellBeyondTheRow();
        keptOfTheRow();
        keptBeyondTheRow();
        keptWithoutASnapshot();
        differsAtTheEndsOfTheRow();
        differsByTheLeast();
        differsNot();
        differsWithoutASnapshot();
        snapshotPlaces();
        snapshotBeyond();
        recordPlaces();
        recordOfAFullStep();
        recordBeyond();
        recordWhat();
        recordOfADroppedStep();
        countWhat();
        countBeyond();
        countOfCellsNotZero();
        countOfStepsDone();
        countOfThePresentStep();
        sumAtTheBounds();
        sumFromTheLowestOn();
        readingsChangeNothing();
        Check.end();
    }

    /** "CELLS 0 .. n - 1" */
    private static void cellOfTheRow() {
        for (int n : new int[] {1, 2, 64, 255, 256}) {
            StateKeeper x = ends(n);
            Check.due("cell(0) of " + n, n == 1 ? 2f : 1f, x.cell(0));
            Check.due("the last cell of " + n, 2f, x.cell(n - 1));
            Check.dueThrow("one more than " + n, Check.INDEX, () -> x.cell(n));
            Check.dueThrow("cell(-1) of " + n, Check.INDEX, () -> x.cell(-1));
        }
    }

    private static void cellBeyondTheRow() {
        for (int i : NO_CELLS) {
            Check.refusedInAll("cell(" + i + ")", Check.INDEX, x -> x.cell(i));
        }
    }

    private static void keptOfTheRow() {
        for (int n : new int[] {1, 2, 64, 255, 256}) {
            StateKeeper x = ends(n);
            x.keep();
            x.inputs(0, 1, n, 0, 9f);
            x.step(1);
            Check.due("kept(1, 0) of " + n, n == 1 ? 2f : 1f, x.kept(1, 0));
            Check.due("kept, the last of " + n, 2f, x.kept(1, n - 1));
            Check.due("kept(0, ..), the last of " + n, 0f, x.kept(0, n - 1));
            Check.dueThrow("kept, one more than " + n, Check.INDEX, () -> x.kept(1, n));
            Check.dueThrow("kept(1, -1) of " + n, Check.INDEX, () -> x.kept(1, -1));
        }
    }

    private static void keptBeyondTheRow() {
        for (World world : World.values()) {
            int lowest = world.get().snapshot(0);
            int highest = world.get().snapshot(world.get().count(2) - 1);
            for (int i : NO_CELLS) {
                Check.refused(world, world + ": kept(lowest, " + i + ")", Check.INDEX,
                        x -> x.kept(lowest, i));
                Check.refused(world, world + ": kept(highest, " + i + ")", Check.INDEX,
                        x -> x.kept(highest, i));
            }
        }
    }

    private static void keptWithoutASnapshot() {
        withoutASnapshot("kept(.., 0)", step -> x -> x.kept(step, 0));
        withoutASnapshot("kept(.., 3)", step -> x -> x.kept(step, 3));
    }

    /** "The lowest cell that is not as in the snapshot of a step" */
    private static void differsAtTheEndsOfTheRow() {
        for (int n : new int[] {1, 2, 64, 255, 256}) {
            for (int i : new int[] {0, n / 2, n - 1}) {
                StateKeeper x = new StateKeeper(n);
                x.inputs(i, 1, n - i, 0, -1f);
                x.step(1);
                Check.due("the lowest of some, of " + n, i, x.differs(0));
                StateKeeper y = new StateKeeper(n);
                y.input(i, 0, 1f);
                y.step(1);
                Check.due("the only one, of " + n, i, y.differs(0));
            }
        }
    }

    private static void differsByTheLeast() {
        StateKeeper x = new StateKeeper(3);
        x.input(1, 0, Float.MIN_VALUE);
        x.input(2, 0, 1f);
        x.step(1);
        Check.due("from 0", 1, x.differs(0));
        x.keep();
        x.input(1, 0, 2 * Float.MIN_VALUE);
        x.step(1);
        Check.due("from the least", 1, x.differs(1));
        x.input(1, 0, Float.MIN_VALUE);
        x.input(2, 0, Math.nextUp(1f));
        x.step(1);
        Check.due("from 1", 2, x.differs(1));
    }

    /** "NONE if there is none": also where a 0 was put in that lies below 0. */
    private static void differsNot() {
        Check.due("a new one", StateKeeper.NONE, new StateKeeper(3).differs(0));
        StateKeeper x = new StateKeeper(3);
        x.inputs(0, 1, 3, 0, -0f);
        x.step(1);
        Check.due("0 below 0", StateKeeper.NONE, x.differs(0));
        StateKeeper full = World.FULL_SNAPSHOTS.get();
        Check.due("as kept at T", StateKeeper.NONE, full.differs(20));
        Check.due("not as kept before", 1, full.differs(19));
        full.back(5);
        Check.due("as at the lowest", StateKeeper.NONE, full.differs(5));
    }

    private static void differsWithoutASnapshot() {
        withoutASnapshot("differs", step -> x -> x.differs(step));
    }

    /** "The step of snapshot k, from the lowest on." */
    private static void snapshotPlaces() {
        Check.due("snapshot(0) of a new one", 0, new StateKeeper(1).snapshot(0));
        StateKeeper begun = World.BEGUN.get();
        for (int k = 0; k < 3; k++) {
            Check.due("snapshot(" + k + ") of 3", 2 * k, begun.snapshot(k));
        }
        StateKeeper full = World.FULL_SNAPSHOTS.get();
        for (int k = 0; k < 16; k++) {
            Check.due("snapshot(" + k + ") of 16", 5 + k, full.snapshot(k));
        }
        full.back(12);
        full.every(3);
        full.step(10);
        int[] due = {5, 6, 7, 8, 9, 10, 11, 12, 15, 18, 21};
        for (int k = 0; k < due.length; k++) {
            Check.due("snapshot(" + k + ") of 11", due[k], full.snapshot(k));
        }
        Check.dueThrow("snapshot(11) of 11", Check.INDEX, () -> full.snapshot(11));
    }

    private static void snapshotBeyond() {
        for (World world : World.values()) {
            int size = world.get().count(2);
            for (int k : new int[] {-1, -16, size, size + 1, 16, 17, MIN, MAX}) {
                Check.refused(world, world + ": snapshot(" + k + ")", Check.INDEX,
                        x -> x.snapshot(k));
            }
        }
    }

    /** "Of input k of a step in the record", the first and the last of each step. */
    private static void recordPlaces() {
        StateKeeper x = World.FULL_RECORD.get();
        int[] size = {256, 100, 156};
        float[] number = {1.25f, -0.75f, 0.5f};
        for (int step = 0; step < 3; step++) {
            for (int k : new int[] {0, 1, size[step] - 2, size[step] - 1}) {
                String place = "(" + step + ", " + k + ")";
                Check.due("record, the cell" + place, step, x.record(step, k, 0));
                Check.due("record, the way" + place, 1, x.record(step, k, 1));
                Check.due("recorded" + place, number[step], x.recorded(step, k));
            }
        }
    }

    private static void recordOfAFullStep() {
        StateKeeper x = new StateKeeper(256);
        x.inputs(0, 1, 256, 0, 1f);
        x.inputs(255, -1, 256, 2, 2f);
        Check.due("the cell of the first", 0, x.record(0, 0, 0));
        Check.due("the cell of the 256th", 255, x.record(0, 255, 0));
        Check.due("the cell of the 257th", 255, x.record(0, 256, 0));
        Check.due("the way of the 256th", 0, x.record(0, 255, 1));
        Check.due("the way of the 257th", 2, x.record(0, 256, 1));
        Check.due("the cell of the 512th", 0, x.record(0, 511, 0));
        Check.due("the number of the 512th", 2f, x.recorded(0, 511));
        Check.dueThrow("record, a 513th", Check.INDEX, () -> x.record(0, 512, 0));
        Check.dueThrow("recorded, a 513th", Check.INDEX, () -> x.recorded(0, 512));
    }

    /** "IndexOutOfBoundsException: there is no such .. place." */
    private static void recordBeyond() {
        int[][] places = {{0, 256}, {1, 100}, {2, 156}, {0, 511}, {0, 512}, {1, 511}, {2, 511},
            {3, 0}, {4, 0}, {-1, 0}, {0, -1}, {1, -1}, {2, -1}, {3, -1}, {MIN, 0}, {MAX, 0},
            {0, MIN}, {0, MAX}, {2, MAX}, {MAX, -1}, {MIN, MIN}, {MAX, MAX}};
        for (int[] p : places) {
            noPlace(World.FULL_RECORD, p[0], p[1]);
        }
        noPlace(World.NEW, 0, 0);
        noPlace(World.FULL_DRIFTS, 0, 0);
        noPlace(World.BEGUN, 3, 0);
        noPlace(World.BEGUN, 5, 1);
        noPlace(World.WENT_BACK, 3, 0);
        noPlace(World.WENT_BACK, 6, 0);
        Check.due("behind T there is one", 2, World.WENT_BACK.get().record(5, 0, 1));
    }

    private static void noPlace(World world, int step, int k) {
        String place = world + ": (" + step + ", " + k + ")";
        Check.refused(world, place + " record, the cell", Check.INDEX, x -> x.record(step, k, 0));
        Check.refused(world, place + " record, the way", Check.INDEX, x -> x.record(step, k, 1));
        Check.refused(world, place + " recorded", Check.INDEX, x -> x.recorded(step, k));
    }

    /** "its cell (what = 0), its way (1)" */
    private static void recordWhat() {
        for (int what : new int[] {-1, 2, 3, MIN, MAX}) {
            Check.refused(World.BEGUN, "record(0, 0, " + what + ")", Check.INDEX,
                    x -> x.record(0, 0, what));
            Check.refused(World.BEGUN, "record(3, 0, " + what + ")", Check.INDEX,
                    x -> x.record(3, 0, what));
        }
    }

    private static void recordOfADroppedStep() {
        noPlace(World.FULL_SNAPSHOTS, 0, 0);
        noPlace(World.FULL_SNAPSHOTS, 4, 0);
        Check.due("that of the lowest snapshot", 5.5f, World.FULL_SNAPSHOTS.get().recorded(5, 0));
        noPlace(World.FULL_SNAPSHOTS, 5, 1);
    }

    /** "0 T, 1 cells, 2 snapshots, 3 inputs in the record, 4 those of the present step, .." */
    private static void countWhat() {
        counts(World.NEW, 0, 3, 1, 0, 0, 0, 0, 0);
        counts(World.BEGUN, 5, 3, 3, 5, 1, 2, 5, 3);
        counts(World.WENT_BACK, 2, 3, 2, 5, 1, 2, 5, 3);
        counts(World.FULL_DRIFTS, 0, 3, 1, 0, 0, 64, 0, 0);
        counts(World.FULL_RECORD, 2, 3, 2, 512, 156, 0, 2, 2);
        counts(World.FULL_SNAPSHOTS, 20, 3, 16, 16, 1, 1, 20, 3);
    }

    private static void counts(World world, int... due) {
        for (int what = 0; what <= 7; what++) {
            Check.due(world + ": count(" + what + ")", due[what], world.get().count(what));
        }
    }

    /** "IndexOutOfBoundsException: none of these." */
    private static void countBeyond() {
        for (int what : new int[] {-1, -8, 8, 9, MIN, MAX}) {
            Check.refusedInAll("count(" + what + ")", Check.INDEX, x -> x.count(what));
        }
    }

    /** "7 cells that are not 0": none, all, and those that are so by the least. */
    private static void countOfCellsNotZero() {
        StateKeeper x = new StateKeeper(256);
        Check.due("none", 0, x.count(7));
        x.inputs(0, 1, 256, 0, -Float.MIN_VALUE);
        x.step(1);
        Check.due("all", 256, x.count(7));
        x.input(0, 2, -0f);
        x.input(255, 2, 0.5f);
        x.step(1);
        Check.due("all but two", 254, x.count(7));
    }

    /** "6 steps that were done in all, those done again too" */
    private static void countOfStepsDone() {
        StateKeeper x = new StateKeeper(1);
        x.step(64);
        Check.due("64", 64, x.count(6));
        x.back(0);
        Check.due("going back does none", 64, x.count(6));
        x.step(2);
        Check.due("but stepping once more", 66, x.count(6));
        x.late(2, 0, 1, 1f);
        Check.due("none for T", 66, x.count(6));
        x.late(1, 0, 1, 1f);
        Check.due("two again", 68, x.count(6));
        Check.dueThrow("step(65)", Check.ARGUMENT, () -> x.step(65));
        Check.due("none refused", 68, x.count(6));
    }

    /** "4 those of the present step", which lie between others of the record. */
    private static void countOfThePresentStep() {
        StateKeeper x = World.FULL_RECORD.get();
        x.step(1);
        Check.due("none of 3", 0, x.count(4));
        x.back(1);
        Check.due("100 of 1", 100, x.count(4));
        x.back(0);
        Check.due("256 of 0", 256, x.count(4));
        Check.due("of 512", 512, x.count(3));
        StateKeeper y = new StateKeeper(1);
        y.inputs(0, 0, 256, 1, 1f);
        y.inputs(0, 0, 256, 1, 1f);
        Check.due("all 512", 512, y.count(4));
    }

    /** "The sum of all cells": it is not held, and no 0 below 0. */
    private static void sumAtTheBounds() {
        StateKeeper x = new StateKeeper(256);
        Check.due("of a new one", 0f, x.sum());
        x.inputs(0, 1, 256, 0, 65536f);
        x.step(1);
        Check.due("the most", 16777216f, x.sum());
        x.inputs(0, 1, 256, 0, -65536f);
        x.step(1);
        Check.due("the least", -16777216f, x.sum());
        StateKeeper y = new StateKeeper(2);
        y.inputs(0, 1, 2, 0, 65536f);
        y.step(1);
        Check.due("of two", 131072f, y.sum());
        StateKeeper z = new StateKeeper(1);
        z.input(0, 0, -0f);
        z.step(1);
        Check.due("of one that was put to 0 below 0", 0f, z.sum());
        z.input(0, 0, 65536f);
        z.step(1);
        Check.due("of one", 65536f, z.sum());
    }

    /** "from the lowest on, beginning with 0": another order gives other bits. */
    private static void sumFromTheLowestOn() {
        StateKeeper x = new StateKeeper(4);
        x.input(0, 0, 65536f);
        x.inputs(1, 1, 2, 0, 0.00390625f);
        x.input(3, 0, -65536f);
        x.step(1);
        Check.due("the small ones are lost", 0f, x.sum());
        StateKeeper y = new StateKeeper(4);
        y.inputs(0, 1, 2, 0, 0.00390625f);
        y.input(2, 0, 65536f);
        y.input(3, 0, -65536f);
        y.step(1);
        Check.due("the small ones come first", 0.0078125f, y.sum());
    }

    private static void readingsChangeNothing() {
        for (World world : World.values()) {
            Supplier<StateKeeper> read = Check.then(world, x -> {
                int step = x.snapshot(0);
                x.cell(2);
                x.kept(step, 0);
                x.differs(step);
                x.sum();
                for (int what = 0; what <= 7; what++) {
                    x.count(what);
                }
                Check.thrownBy(() -> x.record(2, 0, 1));
                Check.thrownBy(() -> x.recorded(2, 0));
            });
            Check.due(world + ": the state behind readings", Seen.of(world), Seen.of(read));
        }
    }

    /** A call for a step. */
    private interface OfStep {
        Consumer<StateKeeper> of(int step);
    }

    /** Between the snapshots, on both sides of them, and at a T that has none. */
    private static void withoutASnapshot(String call, OfStep run) {
        for (int step : new int[] {-1, 1, 3, 5, 6, MIN, MAX}) {
            Check.refused(World.BEGUN, call + " of " + step, Check.INDEX, run.of(step));
        }
        for (int step : new int[] {0, 3, 4, 21, 22, -1, MIN, MAX}) {
            Check.refused(World.FULL_SNAPSHOTS, call + " of " + step, Check.INDEX, run.of(step));
        }
        Check.refused(World.WENT_BACK, call + " of 4, dropped", Check.INDEX, run.of(4));
        Check.refused(World.NEW, call + " of 1", Check.INDEX, run.of(1));
        Check.refused(World.NEW, call + " of -1", Check.INDEX, run.of(-1));
    }

    /** T is 1; the first of n cells is 1, the last 2 (of a single one, this). */
    private static StateKeeper ends(int n) {
        StateKeeper x = new StateKeeper(n);
        x.input(0, 0, 1f);
        x.input(n - 1, 0, 2f);
        x.step(1);
        return x;
    }
}
