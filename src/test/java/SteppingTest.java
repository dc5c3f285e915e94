/** Promises 6 to 9: step, keep, back, forget. */
public final class SteppingTest {
    public static void main(String[] args) {
        stepCounts();
        stepOrder();
        stepInFloats();
        keepReplaces();
        keepDropsLowest();
        keepDropsRecordBelow();
        backRestores();
        forgetDrops();
        Check.end();
    }

    private static void stepCounts() {
        StateKeeper x = new StateKeeper(1);
        Check.due("step(1)", 1, x.step(1));
        Check.due("step(64)", 65, x.step(64));
        Check.due("T", 65, x.count(0));
        Check.due("steps in all", 65, x.count(6));
    }

    private static void stepOrder() {
        StateKeeper x = new StateKeeper(2);
        x.drift(0, 1, 1f);
        x.every(1);
        x.input(0, 0, 2f);
        x.step(1);
        Check.due("the input comes before the drift", 2f, x.cell(1));
        Check.due("the snapshot comes behind the drift", 2f, x.kept(1, 1));
        Check.due("and is of the new T", 1, x.snapshot(1));
        x.step(2);
        Check.due("no input comes twice, the drift does", 6f, x.cell(1));
    }

    /** Product and sum are rounded each for itself, and in float. */
    private static void stepInFloats() {
        StateKeeper x = new StateKeeper(2);
        x.drift(0, 1, 0.1f);
        x.input(0, 0, 0.7f);
        x.input(1, 0, 1000.3f);
        x.step(1);
        float product = 0.7f * 0.1f;
        float due = 1000.3f + product;
        Check.due("one step", due, x.cell(1));
        for (int k = 0; k < 63; k++) {
            due = due + product;
        }
        x.step(63);
        Check.due("64 steps", due, x.cell(1));
        // Neither a wider product nor a fused one gives 0 here.
        StateKeeper y = new StateKeeper(2);
        float a = 1f + 1f / 4096;
        float rounded = a * a;
        y.drift(0, 1, a);
        y.input(0, 0, a);
        y.input(1, 0, -rounded);
        y.step(1);
        Check.due("product rounded before the sum", 0f, y.cell(1));
    }

    private static void keepReplaces() {
        StateKeeper x = new StateKeeper(1);
        Check.due("keep() at step 0", 1, x.keep());
        x.input(0, 0, 3f);
        x.step(1);
        Check.due("keep() at step 1", 2, x.keep());
        Check.due("keep() there again", 2, x.keep());
        x.step(1);
        Check.due("keep() at step 2", 3, x.keep());
        Check.due("snapshot(1)", 1, x.snapshot(1));
        Check.due("snapshot(2)", 2, x.snapshot(2));
        Check.due("kept(0, 0)", 0f, x.kept(0, 0));
        Check.due("kept(1, 0)", 3f, x.kept(1, 0));
        keepStandsStill();
    }

    private static void keepStandsStill() {
        StateKeeper x = new StateKeeper(1);
        x.input(0, 1, 1f);
        x.step(1);
        x.keep();
        x.input(0, 1, 1f);
        x.step(1);
        Check.due("a snapshot does not go on with the world", 1f, x.kept(1, 0));
        Check.due("the world went on", 2f, x.cell(0));
    }

    private static void keepDropsLowest() {
        StateKeeper x = new StateKeeper(1);
        for (int k = 1; k <= 15; k++) {
            x.input(0, 0, k);
            x.step(1);
            Check.due("keep() " + k, k + 1, x.keep());
        }
        Check.due("16 with that of step 0", 0, x.snapshot(0));
        Check.due("keep() at a kept step drops none", 16, x.keep());
        Check.due("the lowest is still that of 0", 0, x.snapshot(0));
        x.input(0, 0, 16f);
        x.step(1);
        Check.due("keep() 16", 16, x.keep());
        Check.due("the lowest is that of 1", 1, x.snapshot(0));
        Check.due("the highest is that of 16", 16, x.snapshot(15));
        Check.due("kept(16, 0)", 16f, x.kept(16, 0));
        Check.due("kept(1, 0)", 1f, x.kept(1, 0));
        Check.dueThrow("kept(0, 0)", Check.INDEX, () -> x.kept(0, 0));
        for (int k = 17; k <= 40; k++) {
            x.input(0, 0, k);
            x.step(1);
            x.keep();
            for (int s = k - 15; s <= k; s += 5) {
                Check.due("snapshot, at " + k, s, x.snapshot(s - k + 15));
                Check.due("kept, at " + k, (float) s, x.kept(s, 0));
            }
        }
    }

    private static void keepDropsRecordBelow() {
        StateKeeper x = new StateKeeper(1);
        x.input(0, 0, 1f);
        x.step(1);
        x.input(0, 1, 2f);
        x.step(1);
        x.input(0, 1, 3f);
        x.input(0, 1, 4f);
        x.every(2);
        x.step(28);
        Check.due("15 snapshots", 15, x.count(2));
        Check.due("nothing dropped yet", 4, x.count(3));
        x.every(1);
        x.step(1);
        Check.due("with 16 of them, too", 4, x.count(3));
        Check.due("the lowest is still that of 0", 0, x.snapshot(0));
        x.step(1);
        Check.due("the lowest is that of 4", 4, x.snapshot(0));
        Check.due("the record below it is gone", 0, x.count(3));
        keepLeavesRecordOfLowest();
    }

    private static void keepLeavesRecordOfLowest() {
        StateKeeper x = new StateKeeper(1);
        x.every(1);
        for (int k = 0; k < 15; k++) {
            x.input(0, 0, k);
            x.input(0, 1, 100f);
            x.step(1);
        }
        Check.due("30 in the record", 30, x.count(3));
        x.step(1);
        Check.due("those of step 0 are gone", 28, x.count(3));
        Check.dueThrow("record(0, 0, 0)", Check.INDEX, () -> x.record(0, 0, 0));
        Check.due("recorded(1, 0)", 1f, x.recorded(1, 0));
        Check.due("recorded(1, 1)", 100f, x.recorded(1, 1));
        Check.due("recorded(14, 0)", 14f, x.recorded(14, 0));
        x.step(64);
        Check.due("all are gone", 0, x.count(3));
    }

    private static void backRestores() {
        StateKeeper x = new StateKeeper(2);
        x.drift(0, 1, 0.3f);
        x.every(2);
        x.input(0, 0, 1.1f);
        x.step(3);
        x.input(0, 2, 1.7f);
        x.step(4);
        String cells = cells(x);
        Check.due("4 snapshots", 4, x.count(2));
        float atTwo = x.kept(2, 1);
        Check.due("back(2)", 2, x.back(2));
        Check.due("T", 2, x.count(0));
        Check.due("cell(1)", atTwo, x.cell(1));
        Check.due("differs(2)", StateKeeper.NONE, x.differs(2));
        Check.due("snapshots of 0 and 2", 2, x.count(2));
        Check.due("the record stays", 2, x.count(3));
        Check.due("steps done stay", 7, x.count(6));
        Check.due("every stays", 2, x.every(2));
        Check.due("back(2) again", 0, x.back(2));
        x.step(5);
        Check.due("the same to the last bit", cells, cells(x));
        Check.due("snapshots are kept again", 4, x.count(2));
        Check.due("steps in all", 12, x.count(6));
        Check.due("back(0)", 3, x.back(0));
        Check.due("all 0", 0, x.count(7));
        x.step(7);
        Check.due("the same from 0 on", cells, cells(x));
    }

    private static String cells(StateKeeper x) {
        return Float.floatToRawIntBits(x.cell(0)) + " " + Float.floatToRawIntBits(x.cell(1));
    }

    private static void forgetDrops() {
        StateKeeper x = new StateKeeper(2);
        for (int k = 0; k < 6; k++) {
            x.inputs(0, 0, k + 1, 1, 1f);
            x.step(1);
        }
        Check.due("21 in the record", 21, x.count(3));
        Check.due("forget(6)", 0, x.forget(6));
        Check.due("forget(MAX)", 0, x.forget(Integer.MAX_VALUE));
        x.back(0);
        Check.due("forget(5)", 6, x.forget(5));
        Check.due("forget(2)", 12, x.forget(2));
        Check.due("3 are left", 3, x.count(3));
        x.step(6);
        Check.due("only steps 0 and 1 were put in", 3f, x.cell(0));
        x.back(0);
        Check.due("forget(0)", 3, x.forget(0));
        Check.due("forget(0) again", 0, x.forget(0));
        x.step(6);
        Check.due("nothing is put in", 0f, x.cell(0));
    }
}
