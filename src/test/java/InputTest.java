/** Promises 4 and 5: input, inputs; and what an input does to its cell. */
public final class InputTest {
    public static void main(String[] args) {
        waysAndOrder();
        held();
        inputBehindOthersOfItsStep();
        inputsRow();
        Check.end();
    }

    private static void waysAndOrder() {
        StateKeeper x = new StateKeeper(3);
        Check.due("input set", 1, x.input(1, 0, 3f));
        Check.due("input add", 2, x.input(1, 1, 2.5f));
        Check.due("input multiply", 3, x.input(1, 2, -2f));
        Check.due("input other cell", 4, x.input(0, 1, 1f));
        Check.due("cell(1) before the step", 0f, x.cell(1));
        x.step(1);
        Check.due("cell(1)", -11f, x.cell(1));
        Check.due("cell(0)", 1f, x.cell(0));
        Check.due("cell(2)", 0f, x.cell(2));
        Check.due("input of a new step", 1, x.input(1, 2, 0.5f));
        x.step(2);
        Check.due("cell(1) halved once", -5.5f, x.cell(1));
    }

    private static void held() {
        StateKeeper x = new StateKeeper(6);
        x.input(0, 0, 65536f);
        x.input(0, 1, 65536f);
        x.input(1, 0, -65536f);
        x.input(1, 1, -1f);
        x.input(2, 0, -65536f);
        x.input(2, 2, 65536f);
        x.input(3, 0, -0f);
        x.input(4, 0, -1f);
        x.input(4, 2, 0f);
        x.input(5, 0, Float.MIN_VALUE);
        x.input(5, 2, -0.25f);
        x.step(1);
        Check.due("held above", 65536f, x.cell(0));
        Check.due("held below", -65536f, x.cell(1));
        Check.due("product held below", -65536f, x.cell(2));
        Check.due("set to the 0 below 0", 0f, x.cell(3));
        Check.due("product is the 0 below 0", 0f, x.cell(4));
        Check.due("product too small", 0f, x.cell(5));
        Check.due("recorded as it was put in", -0f, x.recorded(0, 6));
        Check.due("cells not 0", 3, x.count(7));
        heldDrift();
    }

    private static void heldDrift() {
        StateKeeper x = new StateKeeper(4);
        x.drift(0, 1, 4f);
        x.drift(0, 2, -4f);
        x.drift(3, 3, -1f);
        x.input(0, 0, 40000f);
        x.input(3, 0, -3f);
        x.step(1);
        Check.due("drift held above", 65536f, x.cell(1));
        Check.due("drift held below", -65536f, x.cell(2));
        Check.due("drift to 0", 0f, x.cell(3));
        StateKeeper y = new StateKeeper(2);
        y.drift(0, 1, -0f);
        y.input(0, 0, 1f);
        y.input(1, 0, 0f);
        y.step(1);
        Check.due("drift by the 0 below 0", 0f, y.cell(1));
    }

    private static void inputBehindOthersOfItsStep() {
        StateKeeper x = new StateKeeper(2);
        x.input(0, 0, 5f);
        x.step(1);
        x.input(0, 1, 1f);
        x.step(1);
        x.back(0);
        Check.due("input behind that of step 0", 2, x.input(0, 2, 3f));
        Check.due("recorded(0, 1)", 3f, x.recorded(0, 1));
        Check.due("recorded(1, 0)", 1f, x.recorded(1, 0));
        x.step(2);
        Check.due("cell(0)", 16f, x.cell(0));
    }

    private static void inputsRow() {
        StateKeeper x = new StateKeeper(10);
        x.input(9, 0, 1f);
        Check.due("inputs(1, 3, 3)", 4, x.inputs(1, 3, 3, 0, 2f));
        Check.due("inputs(8, -4, 3)", 7, x.inputs(8, -4, 3, 1, 4f));
        Check.due("inputs(9, 0, 2)", 9, x.inputs(9, 0, 2, 2, 3f));
        Check.due("inputs with a count of 1", 10, x.inputs(2, Integer.MIN_VALUE, 1, 0, 7f));
        int[] cells = {9, 1, 4, 7, 8, 4, 0, 9, 9, 2};
        int[] ways = {0, 0, 0, 0, 1, 1, 1, 2, 2, 0};
        for (int k = 0; k < cells.length; k++) {
            Check.due("record(0, " + k + ", 0)", cells[k], x.record(0, k, 0));
            Check.due("record(0, " + k + ", 1)", ways[k], x.record(0, k, 1));
        }
        x.step(1);
        float[] due = {4f, 2f, 7f, 0f, 6f, 0f, 0f, 2f, 4f, 9f};
        for (int i = 0; i < due.length; i++) {
            Check.due("cell(" + i + ")", due[i], x.cell(i));
        }
    }
}
