import java.util.Random;

/**
 * Long runs of calls, good and wild ones, on the class and on the plain model: the same answers to
 * the last bit, and the same exceptions. The seeds are fixed, so that a run can be told by its
 * number; a run has at most 512 calls, as many as are promised.
 */
public final class ModelTest {
    private static final int RUNS = 4000;
    private static final int CALLS = 512;
    private static final int[] WILD = {Integer.MIN_VALUE, Integer.MAX_VALUE, -1, 256, 512, 1 << 30};
    private static final float[] WILD_NUMBERS = {Float.NaN, Float.POSITIVE_INFINITY,
        Float.NEGATIVE_INFINITY, 65537f, -65537f, Float.MAX_VALUE};

    private final Random random;
    private final StateKeeper x;
    private final PlainModel m;
    private final int[] weights = new int[17];

    private interface Answer {
        float get();
    }

    private interface IntAnswer {
        int get();
    }

    private ModelTest(int run) {
        random = new Random(run);
        int n = random.nextInt(4) == 0 ? random.nextInt(300) - 20 : 1 + random.nextInt(6);
        x = new StateKeeper(n);
        m = new PlainModel(n);
        // Other weights in each run, so that some fill the record and some the snapshots.
        for (int k = 0; k < weights.length; k++) {
            weights[k] = random.nextInt(10);
        }
    }

    public static void main(String[] args) {
        for (int run = 0; run < RUNS; run++) {
            new ModelTest(run).run(run);
        }
        Check.end();
    }

    private void run(int run) {
        int drifts = random.nextInt(6) == 0 ? 70 : random.nextInt(5);
        for (int k = 0; k < CALLS; k++) {
            String name = "run " + run + ", call " + k + ": ";
            if (k < drifts) {
                drift(name);
            } else {
                call(name, pick());
            }
        }
    }

    private int pick() {
        int total = 0;
        for (int w : weights) {
            total += w;
        }
        int r = random.nextInt(total + 1);
        for (int k = 0; k < weights.length; k++) {
            r -= weights[k];
            if (r < 0) {
                return k;
            }
        }
        return 16;
    }

    private void call(String name, int which) {
        switch (which) {
            case 0 -> drift(name);
            case 1 -> every(name);
            case 2 -> input(name);
            case 3 -> inputs(name);
            case 4 -> step(name);
            case 5 -> compareInt(name + "keep()", x::keep, m::keep);
            case 6 -> back(name);
            case 7 -> forget(name);
            case 8 -> late(name);
            case 9 -> cell(name);
            case 10 -> kept(name);
            case 11 -> differs(name);
            case 12 -> snapshot(name);
            case 13 -> record(name);
            case 14 -> recorded(name);
            case 15 -> count(name);
            default -> compare(name + "sum()", x::sum, m::sum);
        }
    }

    private void drift(String name) {
        int from = aCell();
        int to = aCell();
        float factor = random.nextInt(30) == 0 ? 5f : aNumber(4f);
        compareInt(name + "drift(" + from + ", " + to + ", " + factor + ")",
                () -> x.drift(from, to, factor), () -> m.drift(from, to, factor));
    }

    private void every(String name) {
        int n = wildOr(random.nextBoolean() ? random.nextInt(5) : random.nextInt(103) - 1);
        compareInt(name + "every(" + n + ")", () -> x.every(n), () -> m.every(n));
    }

    private void input(String name) {
        int cell = aCell();
        int way = aWay();
        float v = aNumber(65536f);
        compareInt(name + "input(" + cell + ", " + way + ", " + v + ")",
                () -> x.input(cell, way, v), () -> m.input(cell, way, v));
    }

    private void inputs(String name) {
        int from = aCell();
        int by = wildOr(random.nextInt(5) - 2);
        int count = wildOr(random.nextInt(8) == 0 ? random.nextInt(260) : 1 + random.nextInt(4));
        int way = aWay();
        float v = aNumber(65536f);
        compareInt(name + "inputs(" + from + ", " + by + ", " + count + ", " + way + ", " + v + ")",
                () -> x.inputs(from, by, count, way, v), () -> m.inputs(from, by, count, way, v));
    }

    private void step(String name) {
        int n = wildOr(random.nextInt(12) == 0 ? random.nextInt(67) : 1 + random.nextInt(3));
        compareInt(name + "step(" + n + ")", () -> x.step(n), () -> m.step(n));
    }

    private void back(String name) {
        int step = aKeptStep();
        compareInt(name + "back(" + step + ")", () -> x.back(step), () -> m.back(step));
    }

    private void forget(String name) {
        int step = wildOr(m.count(0) + random.nextInt(6) - 1);
        compareInt(name + "forget(" + step + ")", () -> x.forget(step), () -> m.forget(step));
    }

    private void late(String name) {
        int step = aStep();
        int cell = aCell();
        int way = aWay();
        float v = aNumber(65536f);
        compareInt(name + "late(" + step + ", " + cell + ", " + way + ", " + v + ")",
                () -> x.late(step, cell, way, v), () -> m.late(step, cell, way, v));
    }

    private void cell(String name) {
        int i = aCell();
        compare(name + "cell(" + i + ")", () -> x.cell(i), () -> m.cell(i));
    }

    private void kept(String name) {
        int step = aKeptStep();
        int i = aCell();
        compare(name + "kept(" + step + ", " + i + ")", () -> x.kept(step, i),
                () -> m.kept(step, i));
    }

    private void differs(String name) {
        int step = aKeptStep();
        compareInt(name + "differs(" + step + ")", () -> x.differs(step), () -> m.differs(step));
    }

    private void snapshot(String name) {
        int k = wildOr(random.nextInt(18) - 1);
        compareInt(name + "snapshot(" + k + ")", () -> x.snapshot(k), () -> m.snapshot(k));
    }

    private void record(String name) {
        int step = aStep();
        int k = wildOr(random.nextInt(6) - 1);
        int what = wildOr(random.nextInt(3));
        compareInt(name + "record(" + step + ", " + k + ", " + what + ")",
                () -> x.record(step, k, what), () -> m.record(step, k, what));
    }

    private void recorded(String name) {
        int step = aStep();
        int k = wildOr(random.nextInt(6) - 1);
        compare(name + "recorded(" + step + ", " + k + ")", () -> x.recorded(step, k),
                () -> m.recorded(step, k));
    }

    private void count(String name) {
        int what = wildOr(random.nextInt(10) - 1);
        compareInt(name + "count(" + what + ")", () -> x.count(what), () -> m.count(what));
    }

    private int wildOr(int usual) {
        return random.nextInt(60) == 0 ? WILD[random.nextInt(WILD.length)] : usual;
    }

    private int aCell() {
        return wildOr(random.nextInt(40) == 0 ? m.count(1) : random.nextInt(m.count(1)));
    }

    private int aWay() {
        return random.nextInt(40) == 0 ? wildOr(3) : random.nextInt(3);
    }

    private int aStep() {
        int t = m.count(0);
        return wildOr(random.nextBoolean() ? t - random.nextInt(12) + 1 : random.nextInt(t + 2));
    }

    private int aKeptStep() {
        int k = random.nextInt(m.count(2));
        return random.nextInt(10) == 0 ? aStep() : m.snapshot(k);
    }

    private float aNumber(float most) {
        switch (random.nextInt(12)) {
            case 0:
                return most;
            case 1:
                return -most;
            case 2:
                return random.nextBoolean() ? 0f : -0f;
            case 3:
                return random.nextInt(5) == 0
                        ? WILD_NUMBERS[random.nextInt(WILD_NUMBERS.length)] : 1f;
            case 4:
                return (random.nextFloat() * 2 - 1) * most;
            case 5:
                return (random.nextFloat() * 2 - 1) * 1e-38f;
            default:
                return random.nextFloat() * 3 - 1.5f;
        }
    }

    private static void compareInt(String call, IntAnswer got, IntAnswer want) {
        int[] answers = new int[2];
        Class<?> due = Check.thrownBy(() -> answers[1] = want.get());
        Class<?> thrown = Check.thrownBy(() -> answers[0] = got.get());
        if (due != thrown) {
            Check.report(call + " threw " + thrown + ", due is " + due);
        }
        Check.due(call, answers[1], answers[0]);
    }

    private static void compare(String call, Answer got, Answer want) {
        float[] answers = new float[2];
        Class<?> due = Check.thrownBy(() -> answers[1] = want.get());
        Class<?> thrown = Check.thrownBy(() -> answers[0] = got.get());
        if (due != thrown) {
            Check.report(call + " threw " + thrown + ", due is " + due);
        }
        Check.due(call, answers[1], answers[0]);
    }
}
