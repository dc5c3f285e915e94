import java.util.List;
import java.util.function.Consumer;
import java.util.function.Supplier;

/**
 * Where two refusals of one call meet, the one that the document puts first: every mixture of right
 * and wrong arguments, in worlds that would take the call and in worlds that would not.
 */
public final class MeetingTest {
    private static final int MIN = Integer.MIN_VALUE;
    private static final int MAX = Integer.MAX_VALUE;
    private static final int[] CELLS = {0, 2, -1, 3, MAX};
    private static final int[] WAYS = {0, 2, -1, 3};
    private static final float[] NUMBERS = {-65536f, 65536f, Math.nextUp(65536f), Float.NaN};

    /** A world, and how many inputs its record can still take. */
    private record Roomy(String name, int room, Supplier<StateKeeper> world) {
    }

    private static final List<Roomy> ROOMY = List.of(
            new Roomy("begun", 507, World.BEGUN),
            new Roomy("room for two", 2, () -> almostFull(2)),
            new Roomy("room for one", 1, () -> almostFull(1)),
            new Roomy("full", 0, World.FULL_RECORD));

    public static void main(String[] args) {
        drift();
        input();
        inputs();
        late();
        lateWithoutASnapshot();
        Check.end();
    }

    private static void drift() {
        drift("new", World.NEW, true);
        drift("63 drifts", () -> withDrifts(63), true);
        drift("64 drifts", World.FULL_DRIFTS, false);
        drift("T is 1", Check.then(World.NEW, x -> x.step(1)), false);
        drift("one in the record", Check.then(World.NEW, x -> x.input(0, 1, 1f)), false);
        drift("all three", Check.then(World.FULL_DRIFTS, x -> {
            x.step(1);
            x.input(0, 1, 1f);
        }), false);
    }

    private static void drift(String name, Supplier<StateKeeper> world, boolean taken) {
        for (int from : CELLS) {
            for (int to : CELLS) {
                for (float factor : new float[] {-4f, 4f, Math.nextUp(4f), Float.NaN}) {
                    meet(name + ": drift(" + from + ", " + to + ", " + factor + ")", world,
                            isCell(from) && isCell(to), factor >= -4f && factor <= 4f, taken,
                            x -> x.drift(from, to, factor));
                }
            }
        }
    }

    private static void input() {
        for (Roomy r : ROOMY) {
            for (int cell : CELLS) {
                for (int way : WAYS) {
                    for (float v : NUMBERS) {
                        meet(r.name + ": input(" + cell + ", " + way + ", " + v + ")", r.world,
                                isCell(cell), isInput(way, v), r.room >= 1,
                                x -> x.input(cell, way, v));
                    }
                }
            }
        }
    }

    private static void inputs() {
        int[][] rows = {{0, 1, 1}, {2, MIN, 1}, {0, 1, 2}, {2, -1, 2}, {0, 1, 3}, {0, 1, 4},
            {2, -1, 4}, {1, MAX, 2}, {0, 0, 256}, {0, 1, 256}, {0, 0, 257}, {0, 1, 257}, {0, 1, 0},
            {2, MAX, 0}, {0, 1, -1}, {1, 1, MIN}, {1, 1, MAX}, {-1, 1, 2}, {3, -1, 2}, {-1, 1, 0},
            {3, -1, 257}, {-1, 1, 1}, {MIN, MIN, 2}, {MAX, 0, MAX}};
        for (Roomy r : ROOMY) {
            for (int[] row : rows) {
                for (int way : WAYS) {
                    for (float v : NUMBERS) {
                        inputs(r, row[0], row[1], row[2], way, v);
                    }
                }
            }
        }
    }

    private static void inputs(Roomy r, int from, int by, int count, int way, float v) {
        boolean isCount = count >= 1 && count <= 256;
        boolean areCells = isCell(from);
        for (long k = 1; isCount && k < count; k++) {
            areCells &= isCell(from + k * by);
        }
        meet(r.name + ": inputs(" + from + ", " + by + ", " + count + ", " + way + ", " + v + ")",
                r.world, areCells, isCount && isInput(way, v), r.room >= count,
                x -> x.inputs(from, by, count, way, v));
    }

    private static void late() {
        for (Roomy r : ROOMY) {
            int t = r.world.get().count(0);
            for (int step : new int[] {-1, 0, t - 1, t, t + 1}) {
                late(r.name, r.world, step, step >= 0 && step <= t, r.room >= 1);
            }
        }
    }

    /** Both reasons of IllegalStateException alone, and together. */
    private static void lateWithoutASnapshot() {
        for (int step : new int[] {-1, 4, 5, 20, 21}) {
            boolean isStep = step >= 0 && step <= 20;
            late("16 snapshots", World.FULL_SNAPSHOTS, step, isStep, step >= 5);
            late("16 snapshots, full", Check.then(World.FULL_SNAPSHOTS, x -> {
                x.inputs(0, 0, 256, 1, 0.25f);
                x.inputs(0, 0, 240, 1, 0.25f);
            }), step, isStep, false);
        }
    }

    private static void late(String name, Supplier<StateKeeper> world, int step, boolean isStep,
            boolean taken) {
        for (int cell : CELLS) {
            for (int way : WAYS) {
                for (float v : NUMBERS) {
                    meet(name + ": late(" + step + ", " + cell + ", " + way + ", " + v + ")", world,
                            isCell(cell), isInput(way, v) && isStep, taken,
                            x -> x.late(step, cell, way, v));
                }
            }
        }
    }

    /** "IndexOutOfBoundsException .. IllegalArgumentException, then IllegalStateException" */
    private static void meet(String call, Supplier<StateKeeper> world, boolean indexFine,
            boolean argumentFine, boolean stateFine, Consumer<StateKeeper> run) {
        if (indexFine && argumentFine && stateFine) {
            StateKeeper x = world.get();
            Check.dueThrow(call, null, () -> run.accept(x));
            return;
        }
        Class<? extends RuntimeException> want = !indexFine ? Check.INDEX
                : !argumentFine ? Check.ARGUMENT : Check.STATE;
        Check.refused(world, call, want, run);
    }

    private static StateKeeper almostFull(int room) {
        StateKeeper x = World.FULL_RECORD.get();
        x.forget(2);
        x.inputs(2, 0, 156 - room, 1, 0.5f);
        return x;
    }

    private static StateKeeper withDrifts(int count) {
        StateKeeper x = new StateKeeper(3);
        for (int k = 0; k < count; k++) {
            x.drift(k % 3, (k + 1) % 3, 0.125f);
        }
        return x;
    }

    private static boolean isCell(long i) {
        return i >= 0 && i <= 2;
    }

    private static boolean isInput(int way, float v) {
        return way >= 0 && way <= 2 && v >= -65536f && v <= 65536f;
    }
}
