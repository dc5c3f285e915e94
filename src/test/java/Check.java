import java.util.function.Consumer;

/** Counts and prints the answers that are not as due. */
final class Check {
    /** A call that may throw. */
    interface Call {
        void run();
    }

    static final Class<? extends RuntimeException> INDEX = IndexOutOfBoundsException.class;
    static final Class<? extends RuntimeException> ARGUMENT = IllegalArgumentException.class;
    static final Class<? extends RuntimeException> STATE = IllegalStateException.class;

    private static int wrong = 0;

    private Check() {
    }

    static void due(String call, long want, long got) {
        if (got != want) {
            report(call + " answered " + got + ", due is " + want);
        }
    }

    /** To the last bit, so that the 0 below 0 is told from 0. */
    static void due(String call, float want, float got) {
        if (Float.floatToRawIntBits(got) != Float.floatToRawIntBits(want)) {
            report(call + " answered " + got + ", due is " + want);
        }
    }

    static void due(String call, String want, String got) {
        if (!got.equals(want)) {
            report(call + " answered\n  " + got + "\ndue is\n  " + want);
        }
    }

    /** The class itself, none below it: an ArrayIndexOutOfBoundsException is the machine's. */
    static void dueThrow(String call, Class<? extends RuntimeException> want, Call run) {
        Class<?> got = thrownBy(run);
        if (got != want) {
            report(call + " threw " + (got == null ? "nothing" : got.getName())
                    + ", due is " + want.getName());
        }
    }

    /** As dueThrow, and the call changes nothing that can be seen. */
    static void refused(StateKeeper x, String call, Class<? extends RuntimeException> want,
            Consumer<StateKeeper> run) {
        String before = seen(x);
        dueThrow(call, want, () -> run.accept(x));
        due(call + ": the state behind it", before, seen(x));
    }

    static Class<?> thrownBy(Call run) {
        try {
            run.run();
            return null;
        } catch (RuntimeException e) {
            return e.getClass();
        }
    }

    /** All that the face tells of an object, EVERY too. */
    static String seen(StateKeeper x) {
        StringBuilder text = new StringBuilder();
        for (int what = 0; what <= 7; what++) {
            text.append(x.count(what)).append(' ');
        }
        int every = x.every(0);
        x.every(every);
        text.append("every ").append(every).append(" cells").append(cells(x)).append(" snapshots");
        for (int k = 0; k < x.count(2); k++) {
            text.append(' ').append(x.snapshot(k)).append(':');
            for (int i = 0; i < x.count(1); i++) {
                text.append(bits(x.kept(x.snapshot(k), i)));
            }
        }
        return text.append(" record").append(record(x)).toString();
    }

    static String cells(StateKeeper x) {
        StringBuilder text = new StringBuilder();
        for (int i = 0; i < x.count(1); i++) {
            text.append(bits(x.cell(i)));
        }
        return text.toString();
    }

    /** The inputs in the record, of all steps up to some that lie behind T. */
    static String record(StateKeeper x) {
        StringBuilder text = new StringBuilder();
        int left = x.count(3);
        for (int step = 0; left > 0 && step <= x.count(0) + 200; step++) {
            for (int k = 0; hasInput(x, step, k); k++) {
                text.append(' ').append(step).append('/').append(x.record(step, k, 0)).append('/')
                        .append(x.record(step, k, 1)).append('/').append(x.recorded(step, k));
                left--;
            }
        }
        return text.append(" left ").append(left).toString();
    }

    static void end() {
        System.out.println(wrong == 0 ? "all answers are as due" : wrong + " answers are not as due");
        if (wrong != 0) {
            System.exit(1);
        }
    }

    static void report(String text) {
        wrong++;
        System.out.println(text);
    }

    private static boolean hasInput(StateKeeper x, int step, int k) {
        return thrownBy(() -> x.record(step, k, 0)) == null;
    }

    private static String bits(float v) {
        return " " + Integer.toHexString(Float.floatToRawIntBits(v));
    }
}
