import java.util.function.Supplier;

/** The boundary cases of the document's Terms, on which all promises lean. */
public final class TermsBoundsTest {
    private static final float INNER = Math.nextDown(65536f);
    /** From one number to the next, below 65536 and above it. */
    private static final float NOTCH_BELOW = 0.00390625f;
    private static final float NOTCH_ABOVE = 0.0078125f;

    public static void main(String[] args) {
        heldWhenSet();
        heldWhenAdded();
        heldWhenMultiplied();
        heldWhenDrifting();
        heldEachTime();
        noZeroBelowZero();
        zeroAtFirst();
        inputsInTheirOrder();
        everyDividesT();
        everyAtEachStep();
        snapshotOfAllCells();
        atMost16Snapshots();
        recordBelowTheLowestIsDropped();
        recordIsDroppedBehindADroppingAlone();
        snapshotOfStep0AtFirst();
        exactly512Calls();
        Check.end();
    }

    /** "-65536 if it is below that, 65536 if it is above that, otherwise the number" */
    private static void heldWhenSet() {
        for (float v : new float[] {-65536f, -INNER, INNER, 65536f}) {
            Check.due("set to " + v, v, cellBehind(7f, 0, v));
        }
    }

    private static void heldWhenAdded() {
        Check.due("just within", INNER, cellBehind(65535f, 1, INNER - 65535f));
        Check.due("at the bound", 65536f, cellBehind(INNER, 1, NOTCH_BELOW));
        Check.due("just beyond", 65536f, cellBehind(65536f, 1, NOTCH_ABOVE));
        Check.due("far beyond", 65536f, cellBehind(65536f, 1, 65536f));
        Check.due("just within, below", -INNER, cellBehind(-65535f, 1, 65535f - INNER));
        Check.due("at the bound, below", -65536f, cellBehind(-INNER, 1, -NOTCH_BELOW));
        Check.due("just beyond, below", -65536f, cellBehind(-65536f, 1, -NOTCH_ABOVE));
        Check.due("far beyond, below", -65536f, cellBehind(-65536f, 1, -65536f));
    }

    private static void heldWhenMultiplied() {
        for (int sign = -1; sign <= 1; sign += 2) {
            String side = sign < 0 ? ", below" : "";
            Check.due("just within" + side, sign * INNER,
                    cellBehind(256f, 2, sign * Math.nextDown(256f)));
            Check.due("at the bound" + side, sign * 65536f, cellBehind(256f, 2, sign * 256f));
            Check.due("just beyond" + side, sign * 65536f,
                    cellBehind(256f, 2, sign * Math.nextUp(256f)));
            Check.due("far beyond" + side, sign * 65536f, cellBehind(65536f, 2, sign * 65536f));
        }
    }

    /** "the cell to becomes to + from * factor, held" */
    private static void heldWhenDrifting() {
        for (int sign = -1; sign <= 1; sign += 2) {
            String side = sign < 0 ? ", below" : "";
            Check.due("drift, just within" + side, sign * INNER,
                    drifted(sign * 65535f, INNER - 65535f, sign));
            Check.due("drift, at the bound" + side, sign * 65536f,
                    drifted(sign * INNER, NOTCH_BELOW, sign));
            Check.due("drift, just beyond" + side, sign * 65536f,
                    drifted(sign * 65536f, NOTCH_ABOVE, sign));
            Check.due("drift, far beyond" + side, sign * 65536f,
                    drifted(sign * 65536f, 65536f, sign * 4f));
        }
        Check.due("drift of nothing, at the bound", 65536f, drifted(65536f, 0f, 4f));
    }

    /** "each of them held": what comes next begins at the bound. */
    private static void heldEachTime() {
        StateKeeper x = new StateKeeper(2);
        x.input(0, 0, 65536f);
        x.input(0, 1, 65536f);
        x.input(0, 1, -65536f);
        x.input(1, 0, -65536f);
        x.input(1, 2, 2f);
        x.input(1, 2, 0.5f);
        x.step(1);
        Check.due("sum held in between", 0f, x.cell(0));
        Check.due("product held in between", -32768f, x.cell(1));
        StateKeeper y = new StateKeeper(2);
        y.drift(0, 1, 4f);
        y.drift(0, 1, -1f);
        y.input(0, 0, 65536f);
        y.step(1);
        Check.due("drift held in between", 0f, y.cell(1));
        // The product alone is no cell, and so is not held.
        StateKeeper z = new StateKeeper(2);
        z.drift(0, 1, 2f);
        z.input(0, 0, 65536f);
        z.input(1, 0, -65536f);
        z.step(1);
        Check.due("product of a drift not held", 65536f, z.cell(1));
        Check.due("and the drift done once more", 65536f, cellOne(z));
    }

    private static float cellOne(StateKeeper x) {
        x.step(1);
        return x.cell(1);
    }

    /** "otherwise the number + 0 (so that there is no 0 below 0)" */
    private static void noZeroBelowZero() {
        Check.due("set to it", 0f, cellBehind(3f, 0, -0f));
        Check.due("it added to 0", 0f, cellBehind(0f, 1, -0f));
        Check.due("it added to it", 0f, cellBehind(-0f, 1, -0f));
        Check.due("0 times a number below 0", 0f, cellBehind(0f, 2, -1f));
        Check.due("a number below 0 times 0", 0f, cellBehind(-1f, 2, 0f));
        Check.due("a number times it", 0f, cellBehind(65536f, 2, -0f));
        Check.due("too small a product", 0f, cellBehind(Float.MIN_VALUE, 2, -0.5f));
        Check.due("the least stays", -Float.MIN_VALUE, cellBehind(Float.MIN_VALUE, 2, -1f));
        Check.due("drift by it", 0f, drifted(0f, 1f, -0f));
        Check.due("drift of 0", 0f, drifted(0f, 0f, -4f));
        Check.due("drift that takes all", 0f, drifted(4f, 1f, -4f));
        StateKeeper x = new StateKeeper(1);
        x.every(1);
        x.input(0, 0, -0f);
        x.step(1);
        Check.due("kept", 0f, x.kept(1, 0));
        Check.due("the sum", 0f, x.sum());
    }

    /** "CELLS .. (all 0 at first). T is the number of the present step (0 at first)." */
    private static void zeroAtFirst() {
        StateKeeper x = new StateKeeper(256);
        for (int i = 0; i < 256; i++) {
            Check.due("cell(" + i + ") at first", 0f, x.cell(i));
        }
        Check.due("T at first", 0, x.count(0));
        Check.due("inputs at first", 0, x.count(3));
        Check.due("drifts at first", 0, x.count(5));
    }

    /** "those of a step have the order in which they were put in", up to all 512 */
    private static void inputsInTheirOrder() {
        StateKeeper x = new StateKeeper(1);
        float due = 0;
        for (int k = 0; k < 508; k++) {
            float v = k % 2 == 0 ? 1.5f + k : -0.75f;
            Check.due("input " + k, k + 1, x.input(0, 1 + k % 2, v));
            due = k % 2 == 0 ? due + v : due * v;
        }
        x.inputs(0, 0, 3, 2, 0.5f);
        due = due * 0.5f * 0.5f * 0.5f;
        x.late(0, 0, 1, 0.1f);
        due = due + 0.1f;
        x.step(1);
        Check.due("the cell behind 512", due, x.cell(0));
    }

    /** "then, if EVERY is above 0 and divides T, a snapshot is kept", of the T that is one more */
    private static void everyDividesT() {
        for (int every : new int[] {1, 2, 63, 64, 65, 99, 100}) {
            StateKeeper x = new StateKeeper(1);
            x.every(every);
            if (every > 64) {
                x.step(every - 64);
            }
            if (every > 1) {
                x.step(Math.min(every, 64) - 1);
            }
            Check.due("none before " + every, 1, x.count(2));
            x.step(1);
            Check.due("one at " + every, 2, x.count(2));
            Check.due("it is of " + every, every, x.snapshot(1));
            x.every(0);
            x.step(1);
            x.every(every);
            Check.due("none with EVERY 0", 2, x.count(2));
        }
    }

    private static void everyAtEachStep() {
        StateKeeper x = new StateKeeper(1);
        x.every(7);
        x.step(64);
        Check.due("0, 7, .. 63", 10, x.count(2));
        for (int k = 0; k < 10; k++) {
            Check.due("snapshot(" + k + ")", 7 * k, x.snapshot(k));
        }
        x.every(64);
        x.back(63);
        x.step(1);
        Check.due("64", 64, x.snapshot(10));
    }

    /** "all cells as they were at that T" */
    private static void snapshotOfAllCells() {
        StateKeeper x = new StateKeeper(256);
        x.input(0, 0, 65536f);
        x.input(255, 0, -65536f);
        x.step(1);
        x.keep();
        x.inputs(0, 1, 256, 0, 1f);
        x.step(1);
        Check.due("the first, kept", 65536f, x.kept(1, 0));
        Check.due("the second, kept", 0f, x.kept(1, 1));
        Check.due("the last, kept", -65536f, x.kept(1, 255));
        x.back(1);
        Check.due("the first", 65536f, x.cell(0));
        Check.due("the second", 0f, x.cell(1));
        Check.due("the last", -65536f, x.cell(255));
    }

    /** "SNAPSHOTS, at most 16"; "if there are 16 of other steps, the one of the lowest is dropped" */
    private static void atMost16Snapshots() {
        for (int t = 14; t <= 17; t++) {
            StateKeeper byEvery = new StateKeeper(1);
            byEvery.every(1);
            byEvery.step(t);
            int lowest = Math.max(0, t - 15);
            Check.due("snapshots at " + t, Math.min(t + 1, 16), byEvery.count(2));
            Check.due("the lowest at " + t, lowest, byEvery.snapshot(0));
            Check.due("the highest at " + t, t, byEvery.snapshot(t - lowest));
            Check.due("back to the lowest, at " + t, t - lowest, byEvery.back(lowest));
        }
        StateKeeper x = World.FULL_SNAPSHOTS.get();
        x.every(0);
        x.step(64);
        Check.due("a step alone drops none", 5, x.snapshot(0));
        Check.due("keep()", 16, x.keep());
        Check.due("the lowest", 6, x.snapshot(0));
        Check.due("the last but one", 20, x.snapshot(14));
        Check.due("the highest", 84, x.snapshot(15));
        Check.due("keep() again", 16, x.keep());
        Check.due("drops no other", 6, x.snapshot(0));
    }

    /** "what is in the record for steps below that of the lowest snapshot is dropped, too" */
    private static void recordBelowTheLowestIsDropped() {
        for (boolean byKeep : new boolean[] {true, false}) {
            StateKeeper x = apart();
            Check.due("all in the record", 40, x.count(3));
            x.every(byKeep ? 0 : 1);
            x.step(1);
            if (byKeep) {
                x.keep();
            }
            Check.due("the lowest", 10, x.snapshot(0));
            Check.due("those from 10 on stay", 30, x.count(3));
            Check.due("that of 10", 10f, x.recorded(10, 0));
            Check.dueThrow("that of 9", Check.INDEX, () -> x.recorded(9, 0));
            Check.dueThrow("that of 0", Check.INDEX, () -> x.recorded(0, 0));
            Check.due("that of 39", 39f, x.recorded(39, 0));
            Check.due("late(10)", 31, x.late(10, 0, 1, 0.5f));
            Check.dueThrow("late(9)", Check.STATE, () -> x.late(9, 0, 1, 0.5f));
        }
    }

    /** With 16 snapshots and one of this T, nothing is dropped. */
    private static void recordIsDroppedBehindADroppingAlone() {
        StateKeeper x = apart();
        Check.due("keep() with one of this T", 16, x.keep());
        Check.due("the lowest", 0, x.snapshot(0));
        Check.due("all stay", 40, x.count(3));
        x.back(39);
        Check.due("back() drops none of the record", 40, x.count(3));
        x.step(1);
        Check.due("keep() with 15 others", 16, x.keep());
        Check.due("all stay then, too", 40, x.count(3));
        Check.due("that of 0", 0f, x.recorded(0, 0));
    }

    /** T is 40; snapshots of 0, 10, and 27 .. 40; an input of each step before T. */
    private static StateKeeper apart() {
        StateKeeper x = new StateKeeper(1);
        for (int t = 0; t < 40; t++) {
            if (t == 10 || t >= 27) {
                x.keep();
            }
            x.input(0, 0, t);
            x.step(1);
        }
        x.keep();
        return x;
    }

    /** "At first there is one of step 0." */
    private static void snapshotOfStep0AtFirst() {
        StateKeeper x = new StateKeeper(256);
        Check.due("one", 1, x.count(2));
        Check.due("of step 0", 0, x.snapshot(0));
        for (int i = 0; i < 256; i++) {
            Check.due("kept(0, " + i + ")", 0f, x.kept(0, i));
        }
        Check.due("keep() replaces it", 1, x.keep());
    }

    /** "An object is used for at most 512 calls": the last of them answers as any other. */
    private static void exactly512Calls() {
        Supplier<StateKeeper> far = () -> {
            StateKeeper x = new StateKeeper(2);
            x.drift(0, 1, 0.5f);
            for (int k = 1; k < 511; k++) {
                x.step(64);
            }
            return x;
        };
        Check.due("step(64), call 512", 32704, far.get().step(64));
        Check.due("count(6), call 512", 32640, far.get().count(6));
        Check.due("late(0), call 512", 32640, far.get().late(0, 0, 1, 1f));
        Check.due("keep(), call 512", 2, far.get().keep());
        StateKeeper x = far.get();
        Check.dueThrow("late(32641), call 512", Check.ARGUMENT, () -> x.late(32641, 0, 1, 1f));
        StateKeeper y = new StateKeeper(1);
        for (int k = 1; k <= 512; k++) {
            Check.due("input, call " + k, k, y.input(0, 1, 1f));
        }
        StateKeeper z = new StateKeeper(1);
        for (int k = 1; k <= 512; k++) {
            Check.due("step(64), call " + k, 64 * k, z.step(64));
        }
    }

    /** Cell 0, set to a number and then changed by an input. */
    private static float cellBehind(float first, int way, float v) {
        StateKeeper x = new StateKeeper(1);
        x.input(0, 0, first);
        x.input(0, way, v);
        x.step(1);
        return x.cell(0);
    }

    /** The cell to behind one drift. */
    private static float drifted(float to, float from, float factor) {
        StateKeeper x = new StateKeeper(2);
        x.drift(0, 1, factor);
        x.input(0, 0, from);
        x.input(1, 0, to);
        x.step(1);
        return x.cell(1);
    }
}
