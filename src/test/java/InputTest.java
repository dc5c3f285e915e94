/** Promises 4 and 5: input, inputs; and what an input does to its cell. */
public final class InputTest {
    public static void main(String[] args) {
        waysAndOrder();
        held();
        inputRefused();
        inputLimit();
        inputBehindOthersOfItsStep();
        inputsRow();
        inputsRefused();
        inputsWideBy();
        inputsLimit();
        Check.end();
    }

    private static void waysAndOrder() {
        StateKeeper x = new StateKeeper(3);
        Check.due("input set", 1, x.input(1, 0, 3f));
        Check.due("input add", 2, x.input(1, 1, 2.5f));
        Check.due("input multiply", 3, x.input(1, 2, -2f));
        Check.due("input other cell", 4, x.input(0, 1, 1f));
        Check.due("cell(1) before the step", 0f, x.cell(1));
        x.step(1);
        Check.due("cell(1)", -11f, x.cell(1));
        Check.due("cell(0)", 1f, x.cell(0));
        Check.due("cell(2)", 0f, x.cell(2));
        Check.due("input of a new step", 1, x.input(1, 2, 0.5f));
        x.step(2);
        Check.due("cell(1) halved once", -5.5f, x.cell(1));
    }

    private static void held() {
        StateKeeper x = new StateKeeper(6);
        x.input(0, 0, 65536f);
        x.input(0, 1, 65536f);
        x.input(1, 0, -65536f);
        x.input(1, 1, -1f);
        x.input(2, 0, -65536f);
        x.input(2, 2, 65536f);
        x.input(3, 0, -0f);
        x.input(4, 0, -1f);
        x.input(4, 2, 0f);
        x.input(5, 0, Float.MIN_VALUE);
        x.input(5, 2, -0.25f);
        x.step(1);
        Check.due("held above", 65536f, x.cell(0));
        Check.due("held below", -65536f, x.cell(1));
        Check.due("product held below", -65536f, x.cell(2));
        Check.due("set to the 0 below 0", 0f, x.cell(3));
        Check.due("product is the 0 below 0", 0f, x.cell(4));
        Check.due("product too small", 0f, x.cell(5));
        Check.due("recorded as it was put in", -0f, x.recorded(0, 6));
        Check.due("cells not 0", 3, x.count(7));
        heldDrift();
    }

    private static void heldDrift() {
        StateKeeper x = new StateKeeper(4);
        x.drift(0, 1, 4f);
        x.drift(0, 2, -4f);
        x.drift(3, 3, -1f);
        x.input(0, 0, 40000f);
        x.input(3, 0, -3f);
        x.step(1);
        Check.due("drift held above", 65536f, x.cell(1));
        Check.due("drift held below", -65536f, x.cell(2));
        Check.due("drift to 0", 0f, x.cell(3));
        StateKeeper y = new StateKeeper(2);
        y.drift(0, 1, -0f);
        y.input(0, 0, 1f);
        y.input(1, 0, 0f);
        y.step(1);
        Check.due("drift by the 0 below 0", 0f, y.cell(1));
    }

    private static void inputRefused() {
        StateKeeper x = new StateKeeper(3);
        x.input(2, 0, 1f);
        Check.refused(x, "input(3, 0, 0)", Check.INDEX, o -> o.input(3, 0, 0f));
        Check.refused(x, "input(-1, 7, NaN)", Check.INDEX, o -> o.input(-1, 7, Float.NaN));
        Check.refused(x, "input(MAX, 0, 0)", Check.INDEX, o -> o.input(Integer.MAX_VALUE, 0, 0f));
        for (int way : new int[] {-1, 3, Integer.MIN_VALUE, Integer.MAX_VALUE}) {
            Check.refused(x, "input(0, " + way + ", 0)", Check.ARGUMENT, o -> o.input(0, way, 0f));
        }
        float[] wrong = {Math.nextUp(65536f), Math.nextDown(-65536f), Float.NaN,
            Float.POSITIVE_INFINITY, Float.NEGATIVE_INFINITY};
        for (float v : wrong) {
            Check.refused(x, "input(0, 0, " + v + ")", Check.ARGUMENT, o -> o.input(0, 0, v));
        }
        Check.due("input with 65536", 2, x.input(0, 1, 65536f));
        Check.due("input with -65536", 3, x.input(0, 2, -65536f));
    }

    private static void inputLimit() {
        StateKeeper x = new StateKeeper(2);
        x.inputs(0, 0, 256, 1, 1f);
        x.step(1);
        x.inputs(0, 0, 255, 1, 1f);
        Check.due("input 512", 256, x.input(1, 0, 5f));
        Check.due("512 in the record", 512, x.count(3));
        Check.refused(x, "input 513", Check.STATE, o -> o.input(0, 0, 0f));
        Check.refused(x, "input 513 with a wrong way", Check.ARGUMENT, o -> o.input(0, 3, 0f));
        Check.refused(x, "input 513 of no cell", Check.INDEX, o -> o.input(2, 0, 0f));
        x.step(1);
        Check.due("all were done", 511f, x.cell(0));
        Check.due("the last was done", 5f, x.cell(1));
        Check.refused(x, "input 513 at step 2", Check.STATE, o -> o.input(0, 0, 0f));
    }

    private static void inputBehindOthersOfItsStep() {
        StateKeeper x = new StateKeeper(2);
        x.input(0, 0, 5f);
        x.step(1);
        x.input(0, 1, 1f);
        x.step(1);
        x.back(0);
        Check.due("input behind that of step 0", 2, x.input(0, 2, 3f));
        Check.due("recorded(0, 1)", 3f, x.recorded(0, 1));
        Check.due("recorded(1, 0)", 1f, x.recorded(1, 0));
        x.step(2);
        Check.due("cell(0)", 16f, x.cell(0));
    }

    private static void inputsRow() {
        StateKeeper x = new StateKeeper(10);
        x.input(9, 0, 1f);
        Check.due("inputs(1, 3, 3)", 4, x.inputs(1, 3, 3, 0, 2f));
        Check.due("inputs(8, -4, 3)", 7, x.inputs(8, -4, 3, 1, 4f));
        Check.due("inputs(9, 0, 2)", 9, x.inputs(9, 0, 2, 2, 3f));
        Check.due("inputs with a count of 1", 10, x.inputs(2, Integer.MIN_VALUE, 1, 0, 7f));
        int[] cells = {9, 1, 4, 7, 8, 4, 0, 9, 9, 2};
        int[] ways = {0, 0, 0, 0, 1, 1, 1, 2, 2, 0};
        for (int k = 0; k < cells.length; k++) {
            Check.due("record(0, " + k + ", 0)", cells[k], x.record(0, k, 0));
            Check.due("record(0, " + k + ", 1)", ways[k], x.record(0, k, 1));
        }
        x.step(1);
        float[] due = {4f, 2f, 7f, 0f, 6f, 0f, 0f, 2f, 4f, 9f};
        for (int i = 0; i < due.length; i++) {
            Check.due("cell(" + i + ")", due[i], x.cell(i));
        }
    }

    private static void inputsRefused() {
        StateKeeper x = new StateKeeper(10);
        x.input(0, 0, 1f);
        Check.refused(x, "from 10", Check.INDEX, o -> o.inputs(10, -1, 2, 0, 0f));
        Check.refused(x, "from -1", Check.INDEX, o -> o.inputs(-1, 1, 2, 0, 0f));
        Check.refused(x, "from 10, count 0", Check.INDEX, o -> o.inputs(10, 0, 0, 0, 0f));
        Check.refused(x, "last is 10", Check.INDEX, o -> o.inputs(1, 3, 4, 0, 0f));
        Check.refused(x, "last is -1", Check.INDEX, o -> o.inputs(8, -3, 4, 0, 0f));
        Check.refused(x, "last is 10, way 3", Check.INDEX, o -> o.inputs(0, 5, 3, 3, Float.NaN));
        Check.refused(x, "count 0", Check.ARGUMENT, o -> o.inputs(0, 100, 0, 0, 0f));
        Check.refused(x, "count 257", Check.ARGUMENT, o -> o.inputs(0, 100, 257, 0, 0f));
        Check.refused(x, "count MIN", Check.ARGUMENT,
                o -> o.inputs(0, 1, Integer.MIN_VALUE, 0, 0f));
        Check.refused(x, "count MAX", Check.ARGUMENT,
                o -> o.inputs(0, 0, Integer.MAX_VALUE, 0, 0f));
        Check.refused(x, "way -1", Check.ARGUMENT, o -> o.inputs(0, 1, 2, -1, 0f));
        Check.refused(x, "way 3", Check.ARGUMENT, o -> o.inputs(0, 1, 2, 3, 0f));
        Check.refused(x, "v 65537", Check.ARGUMENT, o -> o.inputs(0, 1, 2, 0, 65537f));
        Check.refused(x, "v -65537", Check.ARGUMENT, o -> o.inputs(0, 1, 2, 0, -65537f));
        Check.refused(x, "v NaN", Check.ARGUMENT, o -> o.inputs(0, 1, 2, 0, Float.NaN));
    }

    /** With int's wrap-around the last cell would seem to be there. */
    private static void inputsWideBy() {
        StateKeeper x = new StateKeeper(256);
        Check.dueThrow("by MIN, count 3", Check.INDEX,
                () -> x.inputs(0, Integer.MIN_VALUE, 3, 0, 0f));
        Check.dueThrow("by 2^30, count 5", Check.INDEX, () -> x.inputs(0, 1 << 30, 5, 0, 0f));
        Check.dueThrow("by 2^24, count 256", Check.INDEX, () -> x.inputs(0, 1 << 24, 256, 0, 0f));
        Check.dueThrow("by MAX, count 2", Check.INDEX,
                () -> x.inputs(255, Integer.MAX_VALUE, 2, 0, 0f));
        Check.due("nothing was put in", 0, x.count(3));
    }

    private static void inputsLimit() {
        StateKeeper x = new StateKeeper(2);
        Check.due("inputs, 256", 256, x.inputs(0, 0, 256, 1, 1f));
        Check.due("inputs, 200 more", 456, x.inputs(1, 0, 200, 1, 1f));
        Check.refused(x, "57 more", Check.STATE, o -> o.inputs(0, 0, 57, 1, 1f));
        Check.refused(x, "57 more, way 3", Check.ARGUMENT, o -> o.inputs(0, 0, 57, 3, 1f));
        Check.refused(x, "57 more, no cell", Check.INDEX, o -> o.inputs(0, 1, 57, 3, 1f));
        Check.due("56 more", 512, x.inputs(1, 0, 56, 1, 1f));
        Check.refused(x, "1 more", Check.STATE, o -> o.inputs(0, 0, 1, 1, 1f));
        x.step(1);
        Check.due("cell(0)", 256f, x.cell(0));
        Check.due("cell(1)", 256f, x.cell(1));
    }
}
