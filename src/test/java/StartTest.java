/** Promises 1 and 2: a new object, and start. */
public final class StartTest {
    private static final int[] BUCKETS = {7, 63};
    private static final Due due = new Due();

    /** Makes an object anew for every few questions, since each answers only 512 calls. */
    private interface Maker {
        VeiledFiles make();
    }

    public static void main(String[] args) {
        aNewObjectIsAsAfterStart();
        theStoreIsAsDrawn();
        seedZeroIsSeedOne();
        theKeyChangesTheSealsAlone();
        allBeginsAnew();
        aDeadDeviceBeginsAnew();
        due.end();
    }

    private static void aNewObjectIsAsAfterStart() {
        sameStore("new", VeiledFiles::new, modelOf(1, 0));
        isFresh("new", new VeiledFiles());
        VeiledFiles x = new VeiledFiles();
        due.is("sealed(1, 0, 0)", x.sealed(1, 0, 0), -740608250);
        due.is("sealed(1, 0, 24)", x.sealed(1, 0, 24), 922824475);
        due.is("sealed(0, 0, 2)", x.sealed(0, 0, 2), -192256037);
    }

    /** At the fifth seed blocks are crowded up to the third level from above. */
    private static void theStoreIsAsDrawn() {
        int[] seeds = {1, -1, Integer.MIN_VALUE, Integer.MAX_VALUE, 1154186799, 12345};
        int[] keys = {0, -1, Integer.MAX_VALUE, Integer.MIN_VALUE, 7, -99};
        for (int k = 0; k < seeds.length; k++) {
            int seed = seeds[k];
            int key = keys[k];
            String call = "start(" + seed + ", " + key + ")";
            sameStore(call, () -> started(seed, key), modelOf(seed, key));
            isFresh(call, started(seed, key));
        }
    }

    private static void seedZeroIsSeedOne() {
        sameStore("start(0, 5)", () -> started(0, 5), modelOf(1, 5));
    }

    /** With the same seed and another key the pads differ, the plain words do not. */
    private static void theKeyChangesTheSealsAlone() {
        VeiledFiles one = started(9, 100);
        VeiledFiles other = started(9, 101);
        int differing = 0;
        for (int i = 0; i < 25; i++) {
            differing += one.sealed(1, 40, i) == other.sealed(1, 40, i) ? 0 : 1;
        }
        due.is("words of a bucket that another key changes", differing, 25);
        one.create(1);
        other.create(1);
        for (int i = 0; i < 20; i++) {
            one.write(0, i, i);
            other.write(0, i, i);
            due.is("trace(0, 0)", one.trace(0, 0), other.trace(0, 0));
            due.is("trace(0, 1)", one.trace(0, 1), other.trace(0, 1));
        }
    }

    private static void allBeginsAnew() {
        Maker used = () -> {
            VeiledFiles x = new VeiledFiles();
            for (int f = 0; f < 8; f++) {
                x.create(f);
                for (int i = 0; i < 9; i++) {
                    x.write(f, i, -1 - i);
                }
            }
            x.alter(1, 62, 3, 0);
            x.start(77, 8);
            return x;
        };
        sameStore("start(77, 8) after use", used, modelOf(77, 8));
        VeiledFiles x = used.make();
        isFresh("start(77, 8) after use", x);
        for (int f = 0; f < 8; f++) {
            due.is("create(" + f + ") after a new start", x.create(f), f);
        }
    }

    private static void aDeadDeviceBeginsAnew() {
        VeiledFiles x = new VeiledFiles();
        x.create(4);
        x.alter(0, 0, 0, 1);
        due.illegalState("write on a spoilt store", () -> x.write(0, 0, 1));
        x.start(3, 3);
        isFresh("start(3, 3) of a dead device", x);
        x.create(4);
        due.nothingThrown("write(0, 0, 9) after a new start", () -> x.write(0, 0, 9));
        due.is("read(0, 0) after a new start", x.read(0, 0), 9);
    }

    private static void isFresh(String call, VeiledFiles x) {
        due.is(call + ", state(0)", x.state(0), 0);
        due.is(call + ", state(1)", x.state(1), 0);
        due.is(call + ", state(2)", x.state(2), 64);
        due.is(call + ", state(3)", x.state(3), 0);
        due.is(call + ", stash(0)", x.stash(0), 0);
        due.is(call + ", stash(1)", x.stash(1), 0);
        for (int k = 0; k < 64; k++) {
            due.is(call + ", trace(" + k + ", 0)", x.trace(k, 0), -1);
        }
        due.is(call + ", trace(0, 1)", x.trace(0, 1), -1);
        for (int f = 0; f < 8; f++) {
            due.is(call + ", size(" + f + ")", x.size(f), -1);
        }
        due.is(call + ", find(0)", x.find(0), -1);
    }

    private static void sameStore(String call, Maker maker, Model want) {
        for (int tree = 0; tree < 2; tree++) {
            for (int b = 0; b < BUCKETS[tree]; b++) {
                VeiledFiles x = maker.make();
                String place = "(" + tree + ", " + b;
                due.is(call + ", counter" + place + ")", x.counter(tree, b), 1);
                for (int i = 0; i < 25; i++) {
                    due.is(call + ", sealed" + place + ", " + i + ")",
                            x.sealed(tree, b, i), want.sealed(tree, b, i));
                }
            }
        }
    }

    private static VeiledFiles started(int seed, int key) {
        VeiledFiles x = new VeiledFiles();
        x.start(seed, key);
        return x;
    }

    private static Model modelOf(int seed, int key) {
        Model model = new Model();
        model.start(seed, key);
        return model;
    }
}
