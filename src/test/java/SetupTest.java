/** Promises 1 to 3: a new object, drift, every. */
public final class SetupTest {
    public static void main(String[] args) {
        newObject();
        driftsInOrder();
        driftNotOnceBegun();
        everyKeeps();
        everyAboveOne();
        Check.end();
    }

    private static void newObject() {
        int[] asked = {1, 2, 63, 64, 65, 255, 256, 0, -1, 257, Integer.MIN_VALUE, Integer.MAX_VALUE};
        int[] due = {1, 2, 63, 64, 65, 255, 256, 64, 64, 64, 64, 64};
        for (int k = 0; k < asked.length; k++) {
            StateKeeper x = new StateKeeper(asked[k]);
            String name = "new StateKeeper(" + asked[k] + ").";
            int[] counts = {0, due[k], 1, 0, 0, 0, 0, 0};
            for (int what = 0; what < counts.length; what++) {
                Check.due(name + "count(" + what + ")", counts[what], x.count(what));
            }
            Check.due(name + "snapshot(0)", 0, x.snapshot(0));
            Check.due(name + "cell(last)", 0f, x.cell(due[k] - 1));
            Check.due(name + "kept(0, last)", 0f, x.kept(0, due[k] - 1));
            Check.due(name + "differs(0)", StateKeeper.NONE, x.differs(0));
            Check.due(name + "sum()", 0f, x.sum());
            Check.due(name + "every(0)", 0, x.every(0));
        }
    }

    private static void driftsInOrder() {
        StateKeeper x = new StateKeeper(3);
        Check.due("first drift", 1, x.drift(0, 1, 0.5f));
        Check.due("second drift", 2, x.drift(1, 2, -4f));
        Check.due("drift to itself", 3, x.drift(2, 2, 4f));
        x.input(0, 0, 3f);
        x.step(1);
        // The second drift takes what the first one brought in this very step.
        Check.due("cell(0) after drifts", 3f, x.cell(0));
        Check.due("cell(1) after drifts", 1.5f, x.cell(1));
        Check.due("cell(2) after drifts", -30f, x.cell(2));
        x.step(1);
        Check.due("cell(1) after two steps", 3f, x.cell(1));
        Check.due("cell(2) after two steps", -210f, x.cell(2));
    }

    private static void driftNotOnceBegun() {
        StateKeeper x = new StateKeeper(2);
        x.input(0, 0, 1f);
        Check.dueThrow("drift with an input", Check.STATE, () -> x.drift(0, 1, 1f));
        x.forget(0);
        Check.due("drift with an empty record", 1, x.drift(0, 1, 1f));
        x.step(1);
        Check.dueThrow("drift at step 1", Check.STATE, () -> x.drift(0, 1, 1f));
        x.back(0);
        Check.due("drift, back at step 0", 2, x.drift(0, 1, 1f));
        x.step(1);
        x.input(0, 0, 1f);
        x.back(0);
        Check.dueThrow("drift with a later input", Check.STATE, () -> x.drift(0, 1, 1f));
    }

    private static void everyKeeps() {
        StateKeeper x = new StateKeeper(1);
        Check.due("every(3)", 0, x.every(3));
        x.step(2);
        Check.due("snapshots before step 3", 1, x.count(2));
        x.step(5);
        Check.due("snapshots of 0, 3, 6", 3, x.count(2));
        Check.due("snapshot(1)", 3, x.snapshot(1));
        Check.due("snapshot(2)", 6, x.snapshot(2));
        Check.due("every(0)", 3, x.every(0));
        x.step(10);
        Check.due("none with every 0", 3, x.count(2));
        Check.due("every(100)", 0, x.every(100));
        x.step(64);
        x.step(20);
        Check.due("one of step 100", 100, x.snapshot(3));
        Check.due("four in all", 4, x.count(2));
    }

    private static void everyAboveOne() {
        StateKeeper x = new StateKeeper(1);
        x.step(4);
        x.every(4);
        // The world stands at a step that 4 divides, but only a step keeps a snapshot.
        Check.due("every() keeps none", 1, x.count(2));
        x.step(4);
        Check.due("the next is of step 8", 8, x.snapshot(1));
    }
}
