import java.util.ArrayList;
import java.util.List;
import java.util.TreeMap;

/** The document in its plainest words, to compare with: lists that are searched from end to end. */
final class PlainModel {
    private record Drift(int from, int to, float factor) {
    }

    private record Input(int step, int cell, int way, float v) {
    }

    private final float[] cells;
    private final List<Drift> drifts = new ArrayList<>();
    private final List<Input> record = new ArrayList<>();
    private final TreeMap<Integer, float[]> snapshots = new TreeMap<>();
    private int t = 0;
    private int every = 0;
    private int steps = 0;

    PlainModel(int n) {
        cells = new float[n < 1 || n > 256 ? 64 : n];
        snapshots.put(0, cells.clone());
    }

    int drift(int from, int to, float factor) {
        index(isCell(from) && isCell(to));
        argument(factor >= -4f && factor <= 4f);
        state(drifts.size() < 64 && t == 0 && record.isEmpty());
        drifts.add(new Drift(from, to, factor));
        return drifts.size();
    }

    int every(int n) {
        argument(n >= 0 && n <= 100);
        int was = every;
        every = n;
        return was;
    }

    int input(int cell, int way, float v) {
        index(isCell(cell));
        argument(isInput(way, v));
        state(record.size() < 512);
        record.add(new Input(t, cell, way, v));
        return of(t).size();
    }

    int inputs(int from, int by, int count, int way, float v) {
        index(isCell(from));
        boolean fine = count >= 1 && count <= 256;
        for (long k = 1; fine && k < count; k++) {
            long other = from + k * by;
            index(other >= 0 && other < cells.length);
        }
        argument(fine && isInput(way, v));
        state(record.size() + count <= 512);
        for (int k = 0; k < count; k++) {
            record.add(new Input(t, from + k * by, way, v));
        }
        return of(t).size();
    }

    int step(int n) {
        argument(n >= 1 && n <= 64);
        for (int k = 0; k < n; k++) {
            one();
        }
        return t;
    }

    int keep() {
        if (!snapshots.containsKey(t) && snapshots.size() == 16) {
            snapshots.remove(snapshots.firstKey());
            int lowest = snapshots.firstKey();
            record.removeIf(i -> i.step < lowest);
        }
        snapshots.put(t, cells.clone());
        return snapshots.size();
    }

    int back(int step) {
        index(snapshots.containsKey(step));
        System.arraycopy(snapshots.get(step), 0, cells, 0, cells.length);
        t = step;
        int dropped = snapshots.tailMap(step, false).size();
        snapshots.tailMap(step, false).clear();
        return dropped;
    }

    int forget(int step) {
        argument(step >= t);
        int before = record.size();
        record.removeIf(i -> i.step >= step);
        return before - record.size();
    }

    int late(int step, int cell, int way, float v) {
        index(isCell(cell));
        argument(isInput(way, v) && step >= 0 && step <= t);
        state(record.size() < 512 && snapshots.floorKey(step) != null);
        record.add(new Input(step, cell, way, v));
        if (step == t) {
            return 0;
        }
        int until = t;
        int again = 0;
        back(snapshots.floorKey(step));
        while (t < until) {
            one();
            again++;
        }
        return again;
    }

    float cell(int i) {
        index(isCell(i));
        return cells[i];
    }

    float kept(int step, int i) {
        index(isCell(i) && snapshots.containsKey(step));
        return snapshots.get(step)[i];
    }

    int differs(int step) {
        index(snapshots.containsKey(step));
        for (int i = 0; i < cells.length; i++) {
            if (snapshots.get(step)[i] != cells[i]) {
                return i;
            }
        }
        return -1;
    }

    int snapshot(int k) {
        index(k >= 0 && k < snapshots.size());
        return new ArrayList<>(snapshots.keySet()).get(k);
    }

    int record(int step, int k, int what) {
        List<Input> inputs = of(step);
        index(k >= 0 && k < inputs.size() && (what == 0 || what == 1));
        return what == 0 ? inputs.get(k).cell : inputs.get(k).way;
    }

    float recorded(int step, int k) {
        List<Input> inputs = of(step);
        index(k >= 0 && k < inputs.size());
        return inputs.get(k).v;
    }

    int count(int what) {
        index(what >= 0 && what <= 7);
        int notZero = 0;
        for (float c : cells) {
            notZero += c != 0 ? 1 : 0;
        }
        int[] all = {t, cells.length, snapshots.size(), record.size(), of(t).size(), drifts.size(),
            steps, notZero};
        return all[what];
    }

    float sum() {
        float sum = 0;
        for (float c : cells) {
            sum += c;
        }
        return sum;
    }

    private void one() {
        for (Input i : of(t)) {
            float c = cells[i.cell];
            cells[i.cell] = held(i.way == 0 ? i.v : i.way == 1 ? c + i.v : c * i.v);
        }
        for (Drift d : drifts) {
            float flow = cells[d.from] * d.factor;
            cells[d.to] = held(cells[d.to] + flow);
        }
        t++;
        steps++;
        if (every > 0 && t % every == 0) {
            keep();
        }
    }

    private List<Input> of(int step) {
        List<Input> found = new ArrayList<>();
        for (Input i : record) {
            if (i.step == step) {
                found.add(i);
            }
        }
        return found;
    }

    private boolean isCell(int i) {
        return i >= 0 && i < cells.length;
    }

    private static boolean isInput(int way, float v) {
        return way >= 0 && way <= 2 && Math.abs(v) <= 65536f;
    }

    private static float held(float x) {
        return Math.max(-65536f, Math.min(65536f, x)) + 0f;
    }

    private static void index(boolean fine) {
        if (!fine) {
            throw new IndexOutOfBoundsException();
        }
    }

    private static void argument(boolean fine) {
        if (!fine) {
            throw new IllegalArgumentException();
        }
    }

    private static void state(boolean fine) {
        if (!fine) {
            throw new IllegalStateException();
        }
    }
}
