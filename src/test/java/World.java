import java.util.function.Supplier;

/** Worlds of three cells to begin with, each made anew by some calls. */
enum World implements Supplier<StateKeeper> {
    /** T is 0, with nothing in it but the snapshot of step 0. */
    NEW {
        @Override
        public StateKeeper get() {
            return new StateKeeper(3);
        }
    },

    /** T is 5; snapshots of 0, 2 and 4; an input of each step but 3. */
    BEGUN {
        @Override
        public StateKeeper get() {
            StateKeeper x = new StateKeeper(3);
            x.drift(0, 1, 0.5f);
            x.drift(1, 2, -0.25f);
            x.every(2);
            for (int t = 0; t < 5; t++) {
                if (t != 3) {
                    x.input(t % 3, 1, t + 1.5f);
                }
                x.step(1);
            }
            x.input(0, 2, 3f);
            return x;
        }
    },

    /** T is 2; snapshots of 0 and 2; inputs of 0, 1 and 2, and of 4 and 5, which are still to come. */
    WENT_BACK {
        @Override
        public StateKeeper get() {
            StateKeeper x = BEGUN.get();
            x.back(2);
            return x;
        }
    },

    /** T is 0; 64 drifts; nothing in the record. */
    FULL_DRIFTS {
        @Override
        public StateKeeper get() {
            StateKeeper x = new StateKeeper(3);
            for (int k = 0; k < 64; k++) {
                x.drift(k % 3, (k + 1) % 3, 0.125f);
            }
            return x;
        }
    },

    /** T is 2; snapshots of 0 and 1; 512 in the record, 256 of step 0, 100 of step 1, 156 of T. */
    FULL_RECORD {
        @Override
        public StateKeeper get() {
            StateKeeper x = new StateKeeper(3);
            x.inputs(0, 0, 256, 1, 1.25f);
            x.step(1);
            x.keep();
            x.inputs(1, 0, 100, 1, -0.75f);
            x.step(1);
            x.inputs(2, 0, 156, 1, 0.5f);
            return x;
        }
    },

    /** T is 20; snapshots of 5 .. 20; an input of each step from 5 on, T's too. */
    FULL_SNAPSHOTS {
        @Override
        public StateKeeper get() {
            StateKeeper x = new StateKeeper(3);
            x.drift(0, 1, 0.5f);
            x.every(1);
            for (int t = 0; t < 20; t++) {
                x.input(t % 3, t % 2, t + 0.5f);
                x.step(1);
            }
            x.input(0, 1, 1f);
            return x;
        }
    };
}
