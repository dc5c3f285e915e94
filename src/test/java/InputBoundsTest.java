import java.util.function.Supplier;

/** The boundary cases of promises 4 and 5: input, inputs. */
public final class InputBoundsTest {
    private static final int MIN = Integer.MIN_VALUE;
    private static final int MAX = Integer.MAX_VALUE;
    private static final float[] NUMBERS = {-65536f, Math.nextUp(-65536f), -1f, -Float.MIN_VALUE,
        -0f, 0f, Float.MIN_VALUE, 1f, Math.nextDown(65536f), 65536f};
    private static final float[] WRONG_NUMBERS = {Math.nextDown(-65536f), Math.nextUp(65536f),
        -65537f, 65537f, -Float.MAX_VALUE, Float.MAX_VALUE, Float.NEGATIVE_INFINITY,
        Float.POSITIVE_INFINITY, Float.NaN};
    private static final int[] WRONG_WAYS = {-1, 3, 4, MIN, MAX};

    public static void main(String[] args) {
        inputOfACell();
        inputWays();
        inputNumbersWithin();
        inputNumbersBeyond();
        inputAtMost512();
        inputHasRoomAgain();
        inputCountsThePresentStepAlone();
        inputsFromACell();
        inputsWithOthersThatAreCells();
        inputsWithOthersThatAreNone();
        inputsWithOthersThatWrapRound();
        inputsCountWithin();
        inputsCountBeyond();
        inputsWays();
        inputsNumbers();
        inputsAtMost512();
        Check.end();
    }

    /** A cell: 0 .. n - 1. */
    private static void inputOfACell() {
        for (int n : new int[] {1, 2, 64, 255, 256}) {
            StateKeeper x = new StateKeeper(n);
            Check.due("input of 0, of " + n, 1, x.input(0, 0, 1f));
            Check.due("input of the last, of " + n, 2, x.input(n - 1, 1, 1f));
            Check.dueThrow("input of n, of " + n, Check.INDEX, () -> x.input(n, 0, 1f));
            Check.dueThrow("input of -1, of " + n, Check.INDEX, () -> x.input(-1, 0, 1f));
            Check.due("record of the last, of " + n, n - 1, x.record(0, 1, 0));
        }
        for (int cell : new int[] {-1, 3, 256, MIN, MAX}) {
            Check.refusedInAll("input(" + cell + ", 0, 1)", Check.INDEX, x -> x.input(cell, 0, 1f));
        }
    }

    /** "IllegalArgumentException: way is not 0 .. 2" */
    private static void inputWays() {
        float[] due = {3f, 8f, 15f};
        for (int way = 0; way <= 2; way++) {
            StateKeeper x = new StateKeeper(1);
            x.input(0, 0, 5f);
            Check.due("input with way " + way, 2, x.input(0, way, 3f));
            x.step(1);
            Check.due("the cell with way " + way, due[way], x.cell(0));
        }
        for (int way : WRONG_WAYS) {
            Check.refusedInAll("input with way " + way, Check.ARGUMENT, x -> x.input(0, way, 1f));
        }
    }

    /** "v not -65536 .. 65536", within and at the bounds: it is put in as it is. */
    private static void inputNumbersWithin() {
        for (float v : NUMBERS) {
            StateKeeper x = new StateKeeper(1);
            Check.due("input of " + v, 1, x.input(0, 0, v));
            Check.due("recorded", v, x.recorded(0, 0));
            x.step(1);
            Check.due("the cell", v + 0f, x.cell(0));
        }
    }

    /** "IllegalArgumentException: .. v not -65536 .. 65536" */
    private static void inputNumbersBeyond() {
        for (float v : WRONG_NUMBERS) {
            for (int way = 0; way <= 2; way++) {
                int w = way;
                Check.refusedInAll("input(0, " + w + ", " + v + ")", Check.ARGUMENT,
                        x -> x.input(0, w, v));
            }
        }
    }

    /** "INPUTS, at most 512 in the record"; "IllegalStateException: 512 are in the record." */
    private static void inputAtMost512() {
        StateKeeper x = withInputs(510);
        Check.due("input 511", 511, x.input(1, 0, 1f));
        Check.due("input 512", 512, x.input(2, 0, 2f));
        Check.dueThrow("input 513", Check.STATE, () -> x.input(0, 0, 0f));
        Check.due("512 in the record", 512, x.count(3));
        x.step(1);
        Check.due("input 1 was done", 510f, x.cell(0));
        Check.due("input 511 was done", 1f, x.cell(1));
        Check.due("input 512 was done", 2f, x.cell(2));
        Check.dueThrow("input 513, at the next step", Check.STATE, () -> x.input(0, 0, 0f));
        Check.refused(() -> withInputs(512), "input 513, all of T", Check.STATE,
                o -> o.input(0, 0, 0f));
        Check.refused(World.FULL_RECORD, "input 513, of three steps", Check.STATE,
                o -> o.input(0, 0, 0f));
        Check.refused(Check.then(World.FULL_RECORD, o -> o.back(0)), "input 513, of later steps",
                Check.STATE, o -> o.input(0, 0, 0f));
    }

    /** What is forgotten, or dropped with a snapshot, makes room. */
    private static void inputHasRoomAgain() {
        StateKeeper x = World.FULL_RECORD.get();
        Check.due("forget(2)", 156, x.forget(2));
        Check.due("input behind forget()", 1, x.input(0, 0, 1f));
        StateKeeper y = withInputs(512);
        y.every(1);
        y.step(15);
        Check.dueThrow("input with 16 snapshots", Check.STATE, () -> y.input(0, 0, 1f));
        y.step(1);
        Check.due("input behind the dropping", 1, y.input(0, 0, 1f));
        Check.due("which is all there is", 1, y.count(3));
    }

    /** "how many inputs this has then": those of other steps are none of them. */
    private static void inputCountsThePresentStepAlone() {
        StateKeeper x = World.WENT_BACK.get();
        Check.due("input behind one of step 2", 2, x.input(0, 1, 1f));
        Check.due("inputs behind two of step 2", 5, x.inputs(0, 1, 3, 1, 1f));
        x.step(1);
        Check.due("input of step 3", 1, x.input(0, 1, 1f));
        x.step(1);
        Check.due("inputs behind one of step 4", 3, x.inputs(0, 1, 2, 1, 1f));
    }

    /** "IndexOutOfBoundsException: from is no cell" */
    private static void inputsFromACell() {
        for (int n : new int[] {1, 2, 64, 255, 256}) {
            StateKeeper x = new StateKeeper(n);
            Check.due("inputs from 0, of " + n, 1, x.inputs(0, 1, 1, 0, 1f));
            Check.due("inputs from the last, of " + n, 2, x.inputs(n - 1, 1, 1, 0, 1f));
            Check.dueThrow("inputs from n, of " + n, Check.INDEX, () -> x.inputs(n, -1, 1, 0, 1f));
            Check.dueThrow("inputs from -1, of " + n, Check.INDEX, () -> x.inputs(-1, 1, 1, 0, 1f));
        }
        for (int from : new int[] {-1, 3, 256, MIN, MAX}) {
            // With by, the others would be cells: from alone is none.
            int by = from < 0 ? 1 : -1;
            Check.refusedInAll("inputs from " + from, Check.INDEX,
                    x -> x.inputs(from, by, 2, 0, 1f));
            Check.refusedInAll("one input from " + from, Check.INDEX,
                    x -> x.inputs(from, by, 1, 0, 1f));
        }
    }

    /** "An input for cells from, from + by, from + 2 * by, .. (count of them), in this order" */
    private static void inputsWithOthersThatAreCells() {
        row(256, 0, 1, 256);
        row(256, 255, -1, 256);
        row(256, 0, 255, 2);
        row(256, 255, -255, 2);
        row(256, 0, 0, 256);
        row(256, 255, 0, 256);
        row(256, 1, 127, 3);
        row(10, 0, 3, 4);
        row(10, 9, -3, 4);
        row(1, 0, 0, 256);
        row(3, 1, MAX, 1);
        row(3, 1, MIN, 1);
    }

    private static void row(int n, int from, int by, int count) {
        String name = "inputs(" + from + ", " + by + ", " + count + ") of " + n;
        StateKeeper x = new StateKeeper(n);
        Check.due(name, count, x.inputs(from, by, count, 1, 2f));
        for (int k = 0; k < count; k++) {
            Check.due(name + ": cell of input " + k, from + k * by, x.record(0, k, 0));
        }
        Check.due(name + ": way of the last", 1, x.record(0, count - 1, 1));
        Check.due(name + ": number of the last", 2f, x.recorded(0, count - 1));
        Check.dueThrow(name + ": one more", Check.INDEX, () -> x.record(0, count, 0));
    }

    /** "or, with a count of 1 .. 256, one of the others is none" */
    private static void inputsWithOthersThatAreNone() {
        int[][] rows = {{0, 1, 4}, {0, 3, 2}, {1, 1, 3}, {2, 1, 2}, {0, 2, 3}, {2, -1, 4}, {0, -1, 2},
            {1, -1, 3}, {2, -3, 2}, {2, -2, 3}, {0, 1, 256}, {2, -1, 256}, {0, -1, 256}, {1, 2, 2}};
        for (int[] r : rows) {
            Check.refusedInAll("inputs(" + r[0] + ", " + r[1] + ", " + r[2] + ")", Check.INDEX,
                    x -> x.inputs(r[0], r[1], r[2], 0, 1f));
        }
        StateKeeper wide = new StateKeeper(256);
        Check.dueThrow("the last is 256", Check.INDEX, () -> wide.inputs(1, 1, 256, 0, 1f));
        Check.dueThrow("the last is -1", Check.INDEX, () -> wide.inputs(254, -1, 256, 0, 1f));
        Check.dueThrow("all behind the first", Check.INDEX, () -> wide.inputs(0, 256, 2, 0, 1f));
        Check.due("none is put in", 0, wide.count(3));
    }

    /** The same, where the last would be a cell again if its number wrapped round. */
    private static void inputsWithOthersThatWrapRound() {
        int[][] rows = {{0, MIN, 3}, {1, MIN, 2}, {0, MAX, 2}, {2, MAX, 2}, {2, MAX, 3}, {2, MIN, 3},
            {0, 1 << 30, 5}, {0, -(1 << 30), 5}, {0, 1 << 24, 256}, {0, 1 << 25, 129},
            {1, 1 << 26, 65}, {1, 0x01010101, 256}, {0, -0x01010101, 256}};
        for (int[] r : rows) {
            Check.refused(World.BEGUN, "inputs(" + r[0] + ", " + r[1] + ", " + r[2] + ")",
                    Check.INDEX, x -> x.inputs(r[0], r[1], r[2], 0, 1f));
        }
        StateKeeper wide = new StateKeeper(256);
        Check.dueThrow("the last would be 254", Check.INDEX,
                () -> wide.inputs(255, 0x01010101, 256, 0, 1f));
        Check.dueThrow("the last would be 128", Check.INDEX, () -> wide.inputs(128, MIN, 3, 0, 1f));
        Check.due("none is put in", 0, wide.count(3));
    }

    /** "count is not 1 .. 256", within and at the bounds. */
    private static void inputsCountWithin() {
        for (int count : new int[] {1, 2, 255, 256}) {
            StateKeeper x = new StateKeeper(1);
            Check.due("inputs, " + count, count, x.inputs(0, 0, count, 1, 1f));
            x.step(1);
            Check.due("the cell", (float) count, x.cell(0));
        }
    }

    /** "IllegalArgumentException: count is not 1 .. 256": then the others are not looked at. */
    private static void inputsCountBeyond() {
        for (int count : new int[] {0, -1, -256, 257, 258, MIN, MAX}) {
            for (int by : new int[] {0, 1, -1, 100, MAX, MIN}) {
                Check.refusedInAll("inputs(0, " + by + ", " + count + ")", Check.ARGUMENT,
                        x -> x.inputs(0, by, count, 0, 1f));
            }
        }
    }

    /** "way not 0 .. 2" */
    private static void inputsWays() {
        float[] due = {3f, 8f, 15f};
        for (int way = 0; way <= 2; way++) {
            StateKeeper x = new StateKeeper(2);
            x.inputs(0, 1, 2, 0, 5f);
            Check.due("inputs with way " + way, 4, x.inputs(0, 1, 2, way, 3f));
            x.step(1);
            Check.due("the first cell with way " + way, due[way], x.cell(0));
            Check.due("the last cell with way " + way, due[way], x.cell(1));
        }
        for (int way : WRONG_WAYS) {
            Check.refusedInAll("inputs with way " + way, Check.ARGUMENT,
                    x -> x.inputs(0, 1, 3, way, 1f));
        }
    }

    /** "v not -65536 .. 65536" */
    private static void inputsNumbers() {
        for (float v : NUMBERS) {
            StateKeeper x = new StateKeeper(2);
            Check.due("inputs of " + v, 2, x.inputs(1, -1, 2, 0, v));
            Check.due("recorded", v, x.recorded(0, 1));
            x.step(1);
            Check.due("the cell", v + 0f, x.cell(0));
        }
        for (float v : WRONG_NUMBERS) {
            Check.refusedInAll("inputs of " + v, Check.ARGUMENT, x -> x.inputs(0, 1, 3, 1, v));
        }
    }

    /** "IllegalStateException: more than 512 would be in the record." */
    private static void inputsAtMost512() {
        roomFor(256);
        roomFor(255);
        roomFor(2);
        roomFor(1);
        Check.refused(World.FULL_RECORD, "one more than 512", Check.STATE,
                x -> x.inputs(0, 1, 1, 0, 1f));
        Check.refused(World.FULL_RECORD, "256 more than 512", Check.STATE,
                x -> x.inputs(0, 0, 256, 0, 1f));
        Check.refused(Check.then(World.FULL_RECORD, x -> {
            x.forget(2);
            x.back(0);
        }), "one too many for those of other steps", Check.STATE,
                x -> x.inputs(0, 0, 157, 1, 1f));
    }

    private static void roomFor(int room) {
        Supplier<StateKeeper> world = () -> withInputs(512 - room);
        StateKeeper x = world.get();
        Check.due("inputs that fill the record, " + room, 512, x.inputs(1, 0, room, 1, 1f));
        Check.due("it is full", 512, x.count(3));
        x.step(1);
        Check.due("and all are done", (float) room, x.cell(1));
        StateKeeper y = world.get();
        Check.due("one less", 511, room == 1 ? y.count(3) : y.inputs(1, 0, room - 1, 1, 1f));
        if (room < 256) {
            Check.refused(world, "inputs with one too many, " + (room + 1), Check.STATE,
                    o -> o.inputs(1, 0, room + 1, 1, 1f));
        }
    }

    /** Three cells, and so many inputs of step 0 that add 1 to cell 0. */
    private static StateKeeper withInputs(int count) {
        StateKeeper x = new StateKeeper(3);
        for (int left = count; left > 0; left -= 256) {
            x.inputs(0, 0, Math.min(left, 256), 1, 1f);
        }
        return x;
    }
}
