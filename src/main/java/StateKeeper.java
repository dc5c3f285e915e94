/**
 * Keeps the states of a world of numbers so that it can go back: snapshots, the record of what was
 * put in at each step, and stepping once more from there. What comes late is put in at the step
 * where it belongs, and all steps since are done again, to the last bit as if it had come in time.
 */
public final class StateKeeper {
    /** The answer of differs() where no cell differs. */
    public static final int NONE = -1;

    private static final int MOST_CELLS = 256;
    private static final int USUAL_CELLS = 64;
    private static final int MOST_DRIFTS = 64;
    private static final int MOST_FACTOR = 4;
    private static final int MOST_EVERY = 100;
    private static final int MOST_INPUTS = 512;
    private static final int MOST_INPUTS_AT_ONCE = 256;
    private static final int MOST_STEPS_AT_ONCE = 64;
    private static final int MOST_SNAPSHOTS = 16;
    private static final int BOUND = 65536;

    private static final int WAY_SET = 0;
    private static final int WAY_ADD = 1;
    private static final int WAY_MULTIPLY = 2;

    private final float[] cells;
    private final Drifts driftList;
    private final InputRecord inputRecord;
    private final Snapshots snapshots;
    private int present;
    private int interval;
    private int stepsDone;

    /** A world of so many cells (1 .. 256, else 64), all 0, with a snapshot of step 0. */
    public StateKeeper(int cells) {
        int n = cells >= 1 && cells <= MOST_CELLS ? cells : USUAL_CELLS;
        this.cells = new float[n];
        this.driftList = new Drifts();
        this.inputRecord = new InputRecord();
        this.snapshots = new Snapshots(n);
    }

    /** Makes a drift: how many there are. */
    public int drift(int from, int to, float factor)
            throws IndexOutOfBoundsException, IllegalArgumentException, IllegalStateException {
        needCell(from);
        needCell(to);
        // Asked as "is within", so that a factor that is no number is refused, too.
        if (!(factor >= -MOST_FACTOR && factor <= MOST_FACTOR)) {
            throw new IllegalArgumentException("factor is not -4 .. 4");
        }
        if (driftList.size >= MOST_DRIFTS) {
            throw new IllegalStateException("there are 64 drifts");
        }
        if (present != 0 || inputRecord.size != 0) {
            throw new IllegalStateException("the world has begun");
        }
        driftList.append(from, to, factor);
        return driftList.size;
    }

    /** EVERY becomes n (0: no snapshot by itself): what it was. */
    public int every(int n) throws IllegalArgumentException {
        if (n < 0 || n > MOST_EVERY) {
            throw new IllegalArgumentException("n is not 0 .. 100");
        }
        int before = interval;
        interval = n;
        return before;
    }

    /** An input for the present step: how many inputs this has then. */
    public int input(int cell, int way, float v)
            throws IndexOutOfBoundsException, IllegalArgumentException, IllegalStateException {
        needCell(cell);
        needWayAndNumber(way, v);
        needRoom(1);
        inputRecord.append(present, cell, way, v);
        return inputRecord.sizeOf(present);
    }

    /** An input for each of count cells, by apart, for the present step: how many this has then. */
    public int inputs(int from, int by, int count, int way, float v)
            throws IndexOutOfBoundsException, IllegalArgumentException, IllegalStateException {
        needCell(from);
        if (count < 1 || count > MOST_INPUTS_AT_ONCE) {
            throw new IllegalArgumentException("count is not 1 .. 256");
        }
        needLastCell(from, by, count);
        needWayAndNumber(way, v);
        needRoom(count);
        for (int k = 0; k < count; k++) {
            inputRecord.append(present, from + k * by, way, v);
        }
        return inputRecord.sizeOf(present);
    }

    /** So many steps: T then. */
    public int step(int n) throws IllegalArgumentException {
        if (n < 1 || n > MOST_STEPS_AT_ONCE) {
            throw new IllegalArgumentException("n is not 1 .. 64");
        }
        doSteps(n);
        return present;
    }

    /** Keeps a snapshot: how many there are. */
    public int keep() {
        keepPresent();
        return snapshots.size;
    }

    /** The world is as at the snapshot of a step: how many later snapshots were dropped. */
    public int back(int step) throws IndexOutOfBoundsException {
        return goBackTo(neededSnapshot(step));
    }

    /** Drops what is in the record for steps from this one on: how many inputs. */
    public int forget(int step) throws IllegalArgumentException {
        if (step < present) {
            throw new IllegalArgumentException("step is below T");
        }
        return inputRecord.dropFrom(step);
    }

    /** An input for a step before T, or T: how many steps were done again. */
    public int late(int step, int cell, int way, float v)
            throws IndexOutOfBoundsException, IllegalArgumentException, IllegalStateException {
        needCell(cell);
        needWayAndNumber(way, v);
        if (step < 0 || step > present) {
            throw new IllegalArgumentException("step is not 0 .. T");
        }
        needRoom(1);
        int k = snapshots.highestNotAbove(step);
        if (k == NONE) {
            throw new IllegalStateException("there is no snapshot to step from");
        }
        inputRecord.append(step, cell, way, v);
        return step < present ? stepAgainFrom(k) : 0;
    }

    /** A cell. */
    public float cell(int i) throws IndexOutOfBoundsException {
        needCell(i);
        return cells[i];
    }

    /** A cell as it is in the snapshot of a step. */
    public float kept(int step, int i) throws IndexOutOfBoundsException {
        needCell(i);
        return snapshots.row(neededSnapshot(step))[i];
    }

    /** The lowest cell that is not as in the snapshot of a step; NONE if there is none. */
    public int differs(int step) throws IndexOutOfBoundsException {
        float[] row = snapshots.row(neededSnapshot(step));
        for (int i = 0; i < cells.length; i++) {
            if (cells[i] != row[i]) {
                return i;
            }
        }
        return NONE;
    }

    /** The step of snapshot k, from the lowest on. */
    public int snapshot(int k) throws IndexOutOfBoundsException {
        if (k < 0 || k >= snapshots.size) {
            throw new IndexOutOfBoundsException("no such snapshot");
        }
        return snapshots.stepOf(k);
    }

    /** Of input k of a step in the record: its cell (what = 0), its way (1). */
    public int record(int step, int k, int what) throws IndexOutOfBoundsException {
        int place = neededPlace(step, k);
        switch (what) {
            case 0:
                return inputRecord.targets[place];
            case 1:
                return inputRecord.ways[place];
            default:
                throw new IndexOutOfBoundsException("what is not 0 .. 1");
        }
    }

    /** The number of input k of a step in the record. */
    public float recorded(int step, int k) throws IndexOutOfBoundsException {
        return inputRecord.numbers[neededPlace(step, k)];
    }

    /**
     * 0 T, 1 cells, 2 snapshots, 3 inputs in the record, 4 those of the present step, 5 drifts,
     * 6 steps that were done in all, those done again too, 7 cells that are not 0.
     */
    public int count(int what) throws IndexOutOfBoundsException {
        switch (what) {
            case 0:
                return present;
            case 1:
                return cells.length;
            case 2:
                return snapshots.size;
            case 3:
                return inputRecord.size;
            case 4:
                return inputRecord.sizeOf(present);
            case 5:
                return driftList.size;
            case 6:
                return stepsDone;
            case 7:
                return cellsNotZero();
            default:
                throw new IndexOutOfBoundsException("what is not 0 .. 7");
        }
    }

    /** The sum of all cells, from the lowest on, beginning with 0. */
    public float sum() {
        float total = 0;
        for (int i = 0; i < cells.length; i++) {
            total = total + cells[i];
        }
        return total;
    }

    private int cellsNotZero() {
        int found = 0;
        for (int i = 0; i < cells.length; i++) {
            if (cells[i] != 0) {
                found++;
            }
        }
        return found;
    }

    private void doSteps(int n) {
        for (int done = 0; done < n; done++) {
            inputRecord.putIn(present, cells);
            driftList.flow(cells);
            present++;
            stepsDone++;
            if (interval > 0 && present % interval == 0) {
                keepPresent();
            }
        }
    }

    private void keepPresent() {
        boolean lowestDropped = snapshots.take(present, cells);
        if (lowestDropped) {
            inputRecord.dropBelow(snapshots.stepOf(0));
        }
    }

    private int goBackTo(int k) {
        System.arraycopy(snapshots.row(k), 0, cells, 0, cells.length);
        present = snapshots.stepOf(k);
        return snapshots.dropBehind(k);
    }

    private int stepAgainFrom(int k) {
        int until = present;
        goBackTo(k);
        int again = until - present;
        doSteps(again);
        return again;
    }

    private void needCell(int i) {
        if (i < 0 || i >= cells.length) {
            throw new IndexOutOfBoundsException("no such cell");
        }
    }

    /** The cells lie evenly, so that all are there if the first (tested before) and the last are. */
    private void needLastCell(int from, int by, int count) {
        // In long, because a wide by would wrap round in int and seem to be a cell.
        long last = from + (count - 1L) * by;
        if (last < 0 || last >= cells.length) {
            throw new IndexOutOfBoundsException("one of the others is no cell");
        }
    }

    private static void needWayAndNumber(int way, float v) {
        if (way < WAY_SET || way > WAY_MULTIPLY) {
            throw new IllegalArgumentException("way is not 0 .. 2");
        }
        // Asked as "is within", so that what is no number is refused, too.
        if (!(v >= -BOUND && v <= BOUND)) {
            throw new IllegalArgumentException("v is not -65536 .. 65536");
        }
    }

    private void needRoom(int more) {
        if (more > MOST_INPUTS - inputRecord.size) {
            throw new IllegalStateException("more than 512 inputs would be in the record");
        }
    }

    private int neededSnapshot(int step) {
        int k = snapshots.find(step);
        if (k == NONE) {
            throw new IndexOutOfBoundsException("no snapshot of this step");
        }
        return k;
    }

    private int neededPlace(int step, int k) {
        if (k < 0 || k >= inputRecord.sizeOf(step)) {
            throw new IndexOutOfBoundsException("no such input of this step");
        }
        return inputRecord.sizeBelow(step) + k;
    }

    private static float held(float x) {
        if (x < -BOUND) {
            return -BOUND;
        }
        if (x > BOUND) {
            return BOUND;
        }
        // Not idle: the 0 below 0 becomes the plain 0.
        return x + 0f;
    }

    /** The drifts, in the order in which they were made. */
    private static final class Drifts {
        private final int[] sources = new int[MOST_DRIFTS];
        private final int[] targets = new int[MOST_DRIFTS];
        private final float[] factors = new float[MOST_DRIFTS];
        private int size;

        private void append(int source, int target, float factor) {
            sources[size] = source;
            targets[size] = target;
            factors[size] = factor;
            size++;
        }

        private void flow(float[] cells) {
            for (int d = 0; d < size; d++) {
                int target = targets[d];
                cells[target] = held(cells[target] + cells[sources[d]] * factors[d]);
            }
        }
    }

    /** The inputs, by step, and those of a step in the order in which they were put in. */
    private static final class InputRecord {
        private final int[] steps = new int[MOST_INPUTS];
        private final int[] targets = new int[MOST_INPUTS];
        private final int[] ways = new int[MOST_INPUTS];
        private final float[] numbers = new float[MOST_INPUTS];
        private int size;

        /** How many inputs are of lower steps; a long, so that there is a step above any int. */
        private int sizeBelow(long step) {
            int below = 0;
            for (int jump = MOST_INPUTS; jump > 0; jump /= 2) {
                int next = below + jump;
                if (next <= size && steps[next - 1] < step) {
                    below = next;
                }
            }
            return below;
        }

        private int sizeOf(int step) {
            return sizeBelow(step + 1L) - sizeBelow(step);
        }

        private void append(int step, int target, int way, float number) {
            int place = sizeBelow(step + 1L);
            moveRest(place, place + 1);
            steps[place] = step;
            targets[place] = target;
            ways[place] = way;
            numbers[place] = number;
            size++;
        }

        private void dropBelow(int step) {
            int dropped = sizeBelow(step);
            moveRest(dropped, 0);
            size -= dropped;
        }

        private int dropFrom(int step) {
            int before = size;
            size = sizeBelow(step);
            return before - size;
        }

        private void moveRest(int from, int to) {
            int length = size - from;
            System.arraycopy(steps, from, steps, to, length);
            System.arraycopy(targets, from, targets, to, length);
            System.arraycopy(ways, from, ways, to, length);
            System.arraycopy(numbers, from, numbers, to, length);
        }

        private void putIn(int step, float[] cells) {
            int end = sizeBelow(step + 1L);
            for (int place = sizeBelow(step); place < end; place++) {
                int target = targets[place];
                cells[target] = held(changed(cells[target], ways[place], numbers[place]));
            }
        }

        private static float changed(float x, int way, float number) {
            switch (way) {
                case WAY_SET:
                    return number;
                case WAY_ADD:
                    return x + number;
                default:
                    return x * number;
            }
        }
    }

    /**
     * The snapshots, from the lowest step on, in a ring: T is never below the step of a snapshot,
     * so that a new one always comes last, and the row of a dropped one is used again.
     */
    private static final class Snapshots {
        private final int[] steps = new int[MOST_SNAPSHOTS];
        private final float[][] rows;
        private int first;
        private int size;

        /** With a snapshot of step 0, of cells that are all 0. */
        private Snapshots(int cells) {
            rows = new float[MOST_SNAPSHOTS][cells];
            size = 1;
        }

        private int slot(int k) {
            return (first + k) % MOST_SNAPSHOTS;
        }

        private int stepOf(int k) {
            return steps[slot(k)];
        }

        private float[] row(int k) {
            return rows[slot(k)];
        }

        private int find(int step) {
            int k = highestNotAbove(step);
            return k != NONE && stepOf(k) == step ? k : NONE;
        }

        private int highestNotAbove(int step) {
            for (int k = size - 1; k >= 0; k--) {
                if (stepOf(k) <= step) {
                    return k;
                }
            }
            return NONE;
        }

        /** Whether the lowest had to be dropped for it. */
        private boolean take(int step, float[] cells) {
            // None is of a step above T, so that only the last can be of this one.
            boolean isNew = size == 0 || stepOf(size - 1) != step;
            boolean dropsLowest = isNew && size == MOST_SNAPSHOTS;
            if (dropsLowest) {
                first = slot(1);
                size--;
            }
            if (isNew) {
                size++;
            }
            int last = slot(size - 1);
            steps[last] = step;
            System.arraycopy(cells, 0, rows[last], 0, cells.length);
            return dropsLowest;
        }

        private int dropBehind(int k) {
            int dropped = size - 1 - k;
            size = k + 1;
            return dropped;
        }
    }
}
