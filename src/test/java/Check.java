import java.util.function.Consumer;
import java.util.function.Supplier;

/** Counts and prints the answers that are not as due. */
final class Check {
    /** A call that may throw. */
    interface Call {
        void run();
    }

    static final Class<? extends RuntimeException> INDEX = IndexOutOfBoundsException.class;
    static final Class<? extends RuntimeException> ARGUMENT = IllegalArgumentException.class;
    static final Class<? extends RuntimeException> STATE = IllegalStateException.class;

    private static int wrong = 0;

    private Check() {
    }

    static void due(String call, long want, long got) {
        if (got != want) {
            report(call + " answered " + got + ", due is " + want);
        }
    }

    /** To the last bit, so that the 0 below 0 is told from 0. */
    static void due(String call, float want, float got) {
        if (Float.floatToRawIntBits(got) != Float.floatToRawIntBits(want)) {
            report(call + " answered " + got + ", due is " + want);
        }
    }

    static void due(String call, String want, String got) {
        if (!got.equals(want)) {
            report(call + " answered\n  " + got + "\ndue is\n  " + want);
        }
    }

    /** The class itself, none below it: an ArrayIndexOutOfBoundsException is the machine's. */
    static void dueThrow(String call, Class<? extends RuntimeException> want, Call run) {
        Class<?> got = thrownBy(run);
        if (got != want) {
            report(call + " threw " + name(got) + ", due is " + name(want));
        }
    }

    /** As dueThrow, and the call changes nothing: neither what is seen nor what comes of it. */
    static void refused(Supplier<StateKeeper> world, String call,
            Class<? extends RuntimeException> want, Consumer<StateKeeper> run) {
        StateKeeper one = world.get();
        dueThrow(call, want, () -> run.accept(one));
        Supplier<StateKeeper> behind = then(world, x -> thrownBy(() -> run.accept(x)));
        due(call + ": the state behind it", Seen.of(world), Seen.of(behind));
        due(call + ": the state two steps on", Seen.of(then(world, Check::goOn)),
                Seen.of(then(behind, Check::goOn)));
        due(call + ": the state from the lowest snapshot on",
                Seen.of(then(world, Check::beginAgain)), Seen.of(then(behind, Check::beginAgain)));
    }

    /** In each of the worlds, however full it is: what is wrong with the call itself comes first. */
    static void refusedInAll(String call, Class<? extends RuntimeException> want,
            Consumer<StateKeeper> run) {
        for (World world : World.values()) {
            refused(world, world + ": " + call, want, run);
        }
    }

    static Supplier<StateKeeper> then(Supplier<StateKeeper> world, Consumer<StateKeeper> more) {
        return () -> {
            StateKeeper x = world.get();
            more.accept(x);
            return x;
        };
    }

    static Class<?> thrownBy(Call run) {
        try {
            run.run();
            return null;
        } catch (RuntimeException e) {
            return e.getClass();
        }
    }

    static void end() {
        System.out.println(wrong == 0 ? "all answers are as due" : wrong + " answers are not as due");
        if (wrong != 0) {
            System.exit(1);
        }
    }

    static void report(String text) {
        wrong++;
        System.out.println(text);
    }

    private static void goOn(StateKeeper x) {
        x.step(2);
    }

    private static void beginAgain(StateKeeper x) {
        x.back(x.snapshot(0));
        x.step(2);
    }

    private static String name(Class<?> thrown) {
        return thrown == null ? "nothing" : thrown.getName();
    }
}
