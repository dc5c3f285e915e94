/** The boundary cases of promises 1 to 3: a new object, drift, every. */
public final class SetupBoundsTest {
    private static final int MIN = Integer.MIN_VALUE;
    private static final int MAX = Integer.MAX_VALUE;

    public static void main(String[] args) {
        cellsWithinTheRange();
        cellsBeyondTheRange();
        everyIsZeroAtFirst();
        driftFromACell();
        driftToACell();
        driftFactorWithin();
        driftFactorBeyond();
        driftsAtMost64();
        driftsInTheirOrderToTheLast();
        driftAtStep0Alone();
        driftWithAnEmptyRecordAlone();
        everyWithin();
        everyBeyond();
        everyTakesHold();
        Check.end();
    }

    /** "n is cells, if that is 1 .. 256" */
    private static void cellsWithinTheRange() {
        for (int n : new int[] {1, 2, 63, 64, 65, 255, 256}) {
            worldHas(n, n);
        }
    }

    /** "else 64" */
    private static void cellsBeyondTheRange() {
        for (int cells : new int[] {0, -1, -64, -256, 257, 258, 512, MIN, MAX}) {
            worldHas(64, cells);
        }
    }

    private static void worldHas(int n, int cells) {
        String name = "new StateKeeper(" + cells + ")";
        StateKeeper x = new StateKeeper(cells);
        Check.due(name + ": cells", n, x.count(1));
        Check.due(name + ": the last cell", 0f, x.cell(n - 1));
        Check.dueThrow(name + ": one cell more", Check.INDEX, () -> x.cell(n));
        Check.due(name + ": the last cell, kept", 0f, x.kept(0, n - 1));
        Check.dueThrow(name + ": one cell more, kept", Check.INDEX, () -> x.kept(0, n));
        Check.due(name + ": differs(0)", StateKeeper.NONE, x.differs(0));
        x.drift(n - 1, n - 1, 1f);
        x.input(n - 1, 0, 3f);
        x.step(1);
        Check.due(name + ": the last cell changes", 6f, x.cell(n - 1));
        Check.due(name + ": and is the one that differs", n - 1, x.differs(0));
        Check.due(name + ": cells that are not 0", 1, x.count(7));
        Check.due(name + ": sum()", 6f, x.sum());
    }

    /** "EVERY is 0." */
    private static void everyIsZeroAtFirst() {
        Check.due("what EVERY was", 0, new StateKeeper(3).every(1));
        StateKeeper x = new StateKeeper(3);
        x.step(64);
        x.step(64);
        Check.due("no step has kept a snapshot", 1, x.count(2));
    }

    /** A cell from: 0 .. n - 1. */
    private static void driftFromACell() {
        for (int n : new int[] {1, 2, 64, 255, 256}) {
            StateKeeper x = new StateKeeper(n);
            Check.due("drift from 0, of " + n, 1, x.drift(0, 0, 1f));
            Check.due("drift from the last, of " + n, 2, x.drift(n - 1, 0, 1f));
            Check.dueThrow("drift from n, of " + n, Check.INDEX, () -> x.drift(n, 0, 1f));
            Check.dueThrow("drift from -1, of " + n, Check.INDEX, () -> x.drift(-1, 0, 1f));
        }
        for (int from : new int[] {-1, 3, 256, MIN, MAX}) {
            Check.refusedInAll("drift(" + from + ", 0, 1)", Check.INDEX, x -> x.drift(from, 0, 1f));
        }
    }

    /** A cell to: 0 .. n - 1. */
    private static void driftToACell() {
        for (int n : new int[] {1, 2, 64, 255, 256}) {
            StateKeeper x = new StateKeeper(n);
            Check.due("drift to 0, of " + n, 1, x.drift(0, 0, 1f));
            Check.due("drift to the last, of " + n, 2, x.drift(0, n - 1, 1f));
            Check.dueThrow("drift to n, of " + n, Check.INDEX, () -> x.drift(0, n, 1f));
            Check.dueThrow("drift to -1, of " + n, Check.INDEX, () -> x.drift(0, -1, 1f));
        }
        for (int to : new int[] {-1, 3, 256, MIN, MAX}) {
            Check.refusedInAll("drift(0, " + to + ", 1)", Check.INDEX, x -> x.drift(0, to, 1f));
        }
    }

    /** "IllegalArgumentException: factor is not -4 .. 4", within and at the bounds. */
    private static void driftFactorWithin() {
        float[] factors = {-4f, Math.nextUp(-4f), -1f, -Float.MIN_VALUE, -0f, 0f, Float.MIN_VALUE,
            1f, Math.nextDown(4f), 4f};
        for (float factor : factors) {
            StateKeeper x = new StateKeeper(2);
            Check.due("drift by " + factor, 1, x.drift(0, 1, factor));
            x.input(0, 0, 1f);
            x.step(1);
            Check.due("what came by " + factor, factor + 0f, x.cell(1));
        }
    }

    /** "IllegalArgumentException: factor is not -4 .. 4", beyond the bounds. */
    private static void driftFactorBeyond() {
        float[] factors = {Math.nextDown(-4f), Math.nextUp(4f), -5f, 5f, Float.MAX_VALUE,
            -Float.MAX_VALUE, Float.POSITIVE_INFINITY, Float.NEGATIVE_INFINITY, Float.NaN};
        for (float factor : factors) {
            Check.refusedInAll("drift by " + factor, Check.ARGUMENT, x -> x.drift(0, 1, factor));
        }
    }

    /** "DRIFTS, at most 64"; "IllegalStateException: there are 64" */
    private static void driftsAtMost64() {
        StateKeeper x = new StateKeeper(2);
        for (int k = 1; k <= 64; k++) {
            Check.due("drift " + k, k, x.drift(0, 1, 1f));
        }
        Check.dueThrow("drift 65", Check.STATE, () -> x.drift(0, 1, 1f));
        Check.due("drifts behind the refused one", 64, x.count(5));
        x.input(0, 0, 1f);
        Check.due("a step with 64 drifts", 1, x.step(1));
        Check.due("what all of them brought", 64f, x.cell(1));
        Check.refused(World.FULL_DRIFTS, "drift 65", Check.STATE, o -> o.drift(2, 0, -4f));
    }

    /** "DRIFTS, at most 64, in the order in which they were made" */
    private static void driftsInTheirOrderToTheLast() {
        StateKeeper chain = new StateKeeper(65);
        StateKeeper against = new StateKeeper(65);
        for (int k = 0; k < 64; k++) {
            chain.drift(k, k + 1, 1f);
            against.drift(63 - k, 64 - k, 1f);
        }
        chain.input(0, 0, 1f);
        against.input(0, 0, 1f);
        chain.step(1);
        against.step(1);
        Check.due("one step goes down the whole chain", 1f, chain.cell(64));
        Check.due("and one place against it", 0f, against.cell(2));
        Check.due("which is this one", 1f, against.cell(1));
    }

    /** "IllegalStateException: .. T is not 0" */
    private static void driftAtStep0Alone() {
        StateKeeper x = new StateKeeper(2);
        Check.due("drift at 0", 1, x.drift(0, 1, 1f));
        x.step(1);
        Check.dueThrow("drift at 1", Check.STATE, () -> x.drift(0, 1, 1f));
        x.step(63);
        Check.dueThrow("drift at 64", Check.STATE, () -> x.drift(0, 1, 1f));
        x.back(0);
        Check.due("drift, back at 0", 2, x.drift(0, 1, 1f));
        Check.refused(Check.then(World.NEW, o -> o.step(1)), "drift at 1", Check.STATE,
                o -> o.drift(0, 1, 1f));
        Check.refused(Check.then(World.NEW, o -> {
            o.step(1);
            o.keep();
            o.step(1);
            o.back(1);
        }), "drift, back at 1", Check.STATE, o -> o.drift(0, 1, 1f));
    }

    /** "IllegalStateException: .. something is in the record" */
    private static void driftWithAnEmptyRecordAlone() {
        Check.refused(Check.then(World.NEW, o -> o.input(0, 1, 1f)), "drift with one of step 0",
                Check.STATE, o -> o.drift(0, 1, 1f));
        Check.refused(Check.then(World.NEW, o -> {
            o.step(1);
            o.input(0, 1, 1f);
            o.back(0);
        }), "drift with one of step 1", Check.STATE, o -> o.drift(0, 1, 1f));
        StateKeeper x = new StateKeeper(2);
        x.input(0, 0, 1f);
        x.forget(0);
        Check.due("drift with an emptied record", 1, x.drift(0, 1, 1f));
        x.step(1);
        x.input(0, 0, 1f);
        x.back(0);
        x.forget(1);
        Check.due("drift with a later one forgotten", 2, x.drift(0, 1, 1f));
    }

    /** "EVERY becomes n: what it was." with n at and within the bounds of 0 .. 100 */
    private static void everyWithin() {
        StateKeeper x = new StateKeeper(1);
        Check.due("every(0)", 0, x.every(0));
        Check.due("every(1)", 0, x.every(1));
        Check.due("every(99)", 1, x.every(99));
        Check.due("every(100)", 99, x.every(100));
        Check.due("every(100) again", 100, x.every(100));
        Check.due("every(0) at last", 100, x.every(0));
        Check.due("and then", 0, x.every(0));
    }

    /** "IllegalArgumentException: n is not 0 .. 100." */
    private static void everyBeyond() {
        for (int n : new int[] {-1, -2, -100, 101, 102, MIN, MAX}) {
            Check.refusedInAll("every(" + n + ")", Check.ARGUMENT, x -> x.every(n));
        }
    }

    /** every() itself keeps none, at a step that n divides, too: only a step does. */
    private static void everyTakesHold() {
        StateKeeper x = new StateKeeper(1);
        x.step(64);
        x.every(64);
        Check.due("none kept by every()", 1, x.count(2));
        x.every(1);
        x.step(1);
        Check.due("one kept by the step", 65, x.snapshot(1));
        x.every(0);
        x.step(1);
        Check.due("none with EVERY 0 again", 2, x.count(2));
    }
}
