/** Promises 11 to 18: cell, kept, differs, snapshot, record, recorded, count, sum. */
public final class ReadingTest {
    private static final int[] FAR = {-1, Integer.MIN_VALUE, Integer.MAX_VALUE};

    public static void main(String[] args) {
        cell();
        kept();
        differs();
        snapshot();
        recordAndRecorded();
        count();
        sum();
        Check.end();
    }

    private static StateKeeper world() {
        StateKeeper x = new StateKeeper(3);
        x.drift(0, 2, 0.5f);
        x.input(0, 0, 8f);
        x.input(1, 0, -2f);
        x.step(2);
        x.keep();
        x.input(1, 1, 2f);
        x.step(1);
        x.input(2, 2, 0.25f);
        return x;
    }

    private static void cell() {
        StateKeeper x = world();
        Check.due("cell(0)", 8f, x.cell(0));
        Check.due("cell(1)", 0f, x.cell(1));
        Check.due("cell(2)", 12f, x.cell(2));
        Check.dueThrow("cell(3)", Check.INDEX, () -> x.cell(3));
        for (int i : FAR) {
            Check.dueThrow("cell(" + i + ")", Check.INDEX, () -> x.cell(i));
        }
        StateKeeper wide = new StateKeeper(256);
        wide.input(255, 0, 1f);
        wide.step(1);
        Check.due("cell(255)", 1f, wide.cell(255));
        Check.dueThrow("cell(256)", Check.INDEX, () -> wide.cell(256));
    }

    private static void kept() {
        StateKeeper x = world();
        Check.due("kept(0, 0)", 0f, x.kept(0, 0));
        Check.due("kept(2, 0)", 8f, x.kept(2, 0));
        Check.due("kept(2, 1)", -2f, x.kept(2, 1));
        Check.due("kept(2, 2)", 8f, x.kept(2, 2));
        Check.dueThrow("kept(2, 3)", Check.INDEX, () -> x.kept(2, 3));
        Check.dueThrow("kept(1, 0)", Check.INDEX, () -> x.kept(1, 0));
        Check.dueThrow("kept(3, 0)", Check.INDEX, () -> x.kept(3, 0));
        for (int far : FAR) {
            Check.dueThrow("kept(2, " + far + ")", Check.INDEX, () -> x.kept(2, far));
            Check.dueThrow("kept(" + far + ", 0)", Check.INDEX, () -> x.kept(far, 0));
        }
    }

    private static void differs() {
        StateKeeper x = world();
        Check.due("differs(0)", 0, x.differs(0));
        Check.due("differs(2)", 1, x.differs(2));
        x.keep();
        Check.due("differs(3)", StateKeeper.NONE, x.differs(3));
        x.input(2, 0, 1f);
        x.input(0, 0, 0f);
        x.step(1);
        x.input(0, 0, 8f);
        x.step(1);
        Check.due("differs(3), the last cell", 2, x.differs(3));
        for (int step : new int[] {1, 4, 5, -1, Integer.MIN_VALUE, Integer.MAX_VALUE}) {
            Check.dueThrow("differs(" + step + ")", Check.INDEX, () -> x.differs(step));
        }
    }

    private static void snapshot() {
        StateKeeper x = world();
        Check.due("snapshot(0)", 0, x.snapshot(0));
        Check.due("snapshot(1)", 2, x.snapshot(1));
        Check.dueThrow("snapshot(2)", Check.INDEX, () -> x.snapshot(2));
        for (int k : FAR) {
            Check.dueThrow("snapshot(" + k + ")", Check.INDEX, () -> x.snapshot(k));
        }
        x.every(1);
        x.step(64);
        for (int k = 0; k < 16; k++) {
            Check.due("snapshot(" + k + ") of 16", 52 + k, x.snapshot(k));
        }
        Check.dueThrow("snapshot(16)", Check.INDEX, () -> x.snapshot(16));
    }

    private static void recordAndRecorded() {
        StateKeeper x = world();
        recordRow(x, 0, 0, 0, 0, 8f);
        recordRow(x, 0, 1, 1, 0, -2f);
        recordRow(x, 2, 0, 1, 1, 2f);
        recordRow(x, 3, 0, 2, 2, 0.25f);
        recordMissing(x, 0, 2);
        recordMissing(x, 1, 0);
        recordMissing(x, 2, 1);
        recordMissing(x, 3, 1);
        recordMissing(x, 4, 0);
        for (int far : FAR) {
            recordMissing(x, 0, far);
            recordMissing(x, far, 0);
            recordMissing(x, far, far);
            Check.dueThrow("record(0, 0, " + far + ")", Check.INDEX, () -> x.record(0, 0, far));
        }
        Check.dueThrow("record(0, 0, 2)", Check.INDEX, () -> x.record(0, 0, 2));
        x.back(0);
        recordRow(x, 3, 0, 2, 2, 0.25f);
        StateKeeper full = new StateKeeper(1);
        full.inputs(0, 0, 256, 1, 1f);
        full.inputs(0, 0, 255, 1, 1f);
        full.input(0, 2, 3f);
        recordRow(full, 0, 511, 0, 2, 3f);
        recordMissing(full, 0, 512);
        recordMissing(full, 1, 0);
    }

    private static void recordRow(StateKeeper x, int step, int k, int cell, int way, float v) {
        String place = "(" + step + ", " + k + ")";
        Check.due("record, cell " + place, cell, x.record(step, k, 0));
        Check.due("record, way " + place, way, x.record(step, k, 1));
        Check.due("recorded" + place, v, x.recorded(step, k));
    }

    private static void recordMissing(StateKeeper x, int step, int k) {
        String place = "(" + step + ", " + k + ")";
        Check.dueThrow("record" + place, Check.INDEX, () -> x.record(step, k, 0));
        Check.dueThrow("record, way " + place, Check.INDEX, () -> x.record(step, k, 1));
        Check.dueThrow("recorded" + place, Check.INDEX, () -> x.recorded(step, k));
    }

    private static void count() {
        StateKeeper x = world();
        int[] due = {3, 3, 2, 4, 1, 1, 3, 2};
        for (int what = 0; what < due.length; what++) {
            Check.due("count(" + what + ")", due[what], x.count(what));
        }
        x.back(2);
        int[] dueBack = {2, 3, 2, 4, 1, 1, 3, 3};
        for (int what = 0; what < dueBack.length; what++) {
            Check.due("count(" + what + ") behind back(2)", dueBack[what], x.count(what));
        }
        x.late(0, 0, 0, 0f);
        int[] dueLate = {2, 3, 1, 5, 1, 1, 5, 1};
        for (int what = 0; what < dueLate.length; what++) {
            Check.due("count(" + what + ") behind late(0)", dueLate[what], x.count(what));
        }
        Check.dueThrow("count(8)", Check.INDEX, () -> x.count(8));
        for (int what : FAR) {
            Check.dueThrow("count(" + what + ")", Check.INDEX, () -> x.count(what));
        }
    }

    private static void sum() {
        Check.due("sum()", 20f, world().sum());
        StateKeeper x = new StateKeeper(256);
        x.inputs(1, 1, 255, 0, 0.001f);
        x.input(0, 0, 65536f);
        x.step(1);
        // Each of the small ones is lost beside the large one, from the lowest cell on.
        Check.due("sum() from the lowest on", 65536f, x.sum());
        StateKeeper y = new StateKeeper(256);
        y.inputs(0, 1, 256, 0, 65536f);
        y.step(1);
        Check.due("sum() is not held", 16777216f, y.sum());
        StateKeeper z = new StateKeeper(256);
        z.inputs(0, 1, 256, 0, 0.1f);
        z.step(1);
        float due = 0;
        for (int i = 0; i < 256; i++) {
            due = due + 0.1f;
        }
        Check.due("sum() in floats", due, z.sum());
    }
}
