import java.util.function.Supplier;

/**
 * All that the face tells of a world, as a text. An object is promised 512 calls, and a full record
 * takes more to read: the world is made anew before they run out.
 */
final class Seen {
    /** Leaves a world some 350 calls to be made with. */
    private static final int QUESTIONS = 150;
    private static final int STEPS_BEHIND_T = 100;

    private final Supplier<StateKeeper> world;
    private final StringBuilder text = new StringBuilder();
    private StateKeeper object;
    private int left = 0;

    private Seen(Supplier<StateKeeper> world) {
        this.world = world;
    }

    static String of(Supplier<StateKeeper> world) {
        Seen seen = new Seen(world);
        seen.counts();
        seen.standing();
        return seen.text.toString();
    }

    /** Without the counts, one of which tells how often the world went back. */
    static String standingOf(Supplier<StateKeeper> world) {
        Seen seen = new Seen(world);
        seen.standing();
        return seen.text.toString();
    }

    private StateKeeper x() {
        if (left == 0) {
            object = world.get();
            left = QUESTIONS;
        }
        left--;
        return object;
    }

    private void counts() {
        for (int what = 0; what <= 7; what++) {
            text.append(x().count(what)).append(' ');
        }
        // Of an object of its own, because the question changes the answer.
        text.append("every ").append(world.get().every(0));
        text.append(" sum").append(bits(x().sum()));
    }

    private void standing() {
        cells();
        snapshots();
        record();
    }

    private void cells() {
        text.append(" cells");
        int n = x().count(1);
        for (int i = 0; i < n; i++) {
            text.append(bits(x().cell(i)));
        }
    }

    private void snapshots() {
        text.append(" snapshots");
        int n = x().count(1);
        int most = x().count(2);
        for (int k = 0; k < most; k++) {
            int step = x().snapshot(k);
            text.append(' ').append(step).append(" differs ").append(x().differs(step)).append(':');
            for (int i = 0; i < n; i++) {
                text.append(bits(x().kept(step, i)));
            }
        }
    }

    /** The inputs of all steps, up to some that lie behind T. */
    private void record() {
        text.append(" record");
        int unseen = x().count(3);
        int last = x().count(0) + STEPS_BEHIND_T;
        for (int step = 0; unseen > 0 && step <= last; step++) {
            for (int k = 0; hasInput(step, k); k++) {
                text.append(' ').append(step).append('/').append(x().record(step, k, 0)).append('/')
                        .append(x().record(step, k, 1)).append('/')
                        .append(bits(x().recorded(step, k)));
                unseen--;
            }
        }
        text.append(" unseen ").append(unseen);
    }

    private boolean hasInput(int step, int k) {
        StateKeeper asked = x();
        return Check.thrownBy(() -> asked.record(step, k, 0)) == null;
    }

    private static String bits(float v) {
        return " " + Integer.toHexString(Float.floatToRawIntBits(v));
    }
}
