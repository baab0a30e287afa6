import java.util.List;

/** Promises 1 and 2: a new object, and start. */
public final class StartTest {
    private static final Run NEW = VeiledFiles::new;
    private static final Run BUSY = () -> {
        VeiledFiles x = new VeiledFiles();
        for (int f = 0; f < 8; f++) {
            x.create(f);
            Run.writeWords(x, f, 9);
        }
        x.alter(1, 62, 3, 0);
        return x;
    };

    public static void main(String[] args) {
        Sentences sentences = new Sentences();
        sentences.of("Promise 1");
        sentences.holds("As after start(1, 0)", StartTest::aNewObjectIsAsAfterStart);
        sentences.of("Promise 2");
        sentences.holds("start, with the ends of the seeds and keys", StartTest::theStoreIsAsDrawn);
        sentences.holds("start, with another key", StartTest::theKeyChangesTheSealsAlone);
        sentences.holds("All begins anew, after use", StartTest::allBeginsAnewAfterUse);
        sentences.holds("All begins anew, with blocks in the STASH",
                StartTest::theStashIsLeftBehind);
        sentences.holds("All begins anew, the device being DEAD", StartTest::aDeadDeviceBeginsAnew);
        sentences.holds("All begins anew, twice", StartTest::twoStartsAreAsOne);
        sentences.holds("with no files", StartTest::eightFilesAreGone);
        sentences.end();
    }

    private static void aNewObjectIsAsAfterStart(Due due) {
        sameStore(due, "new", NEW, modelOf(1, 0));
        isFresh(due, "new", new VeiledFiles());
        VeiledFiles x = new VeiledFiles();
        due.is("sealed(1, 0, 0)", x.sealed(1, 0, 0), -740608250);
        due.is("sealed(1, 0, 24)", x.sealed(1, 0, 24), 922824475);
        due.is("sealed(0, 0, 2)", x.sealed(0, 0, 2), -192256037);
        VeiledFiles one = Run.idled(Run.started(1, 0), 50);
        Run.idled(x, 50);
        due.is("trace(0, 0) after 50 accesses", x.trace(0, 0), one.trace(0, 0));
        due.is("trace(0, 1) after 50 accesses", x.trace(0, 1), one.trace(0, 1));
    }

    private static void theStoreIsAsDrawn(Due due) {
        int[] ends = {0, -1, Integer.MIN_VALUE, Integer.MAX_VALUE};
        for (int k = 0; k < 8; k++) {
            int seed = ends[k % 4];
            int key = ends[(k + k / 4) % 4];
            String call = "start(" + seed + ", " + key + ")";
            sameStore(due, call, () -> Run.started(seed, key), modelOf(seed, key));
            isFresh(due, call, Run.started(seed, key));
        }
    }

    /** With the same seed and another key the pads differ, the draws do not. */
    private static void theKeyChangesTheSealsAlone(Due due) {
        VeiledFiles one = Run.started(9, 100);
        VeiledFiles other = Run.started(9, 101);
        due.is("words of a bucket that another key leaves",
                Store.same(Store.words(one, 1, 40), Store.words(other, 1, 40)), 0);
        one.create(1);
        other.create(1);
        for (int i = 0; i < 20; i++) {
            one.write(0, i, i);
            other.write(0, i, i);
            due.is("trace(0, 0)", one.trace(0, 0), other.trace(0, 0));
            due.is("trace(0, 1)", one.trace(0, 1), other.trace(0, 1));
        }
    }

    private static void allBeginsAnewAfterUse(Due due) {
        Run again = startedAgain(BUSY);
        sameStore(due, "start(77, 8) after use", again, modelOf(77, 8));
        isFresh(due, "start(77, 8) after use", again.made());
        sameAccesses(due, again.made());
    }

    private static void theStashIsLeftBehind(Due due) {
        boolean[] seen = new boolean[2];
        for (int n = 1; n <= 300 && !(seen[0] && seen[1]); n++) {
            VeiledFiles x = Run.started(n * 7919, 1);
            for (int k = 0; k < 100 && x.stash(0) + x.stash(1) == 0; k++) {
                x.idle();
            }
            seen[0] |= x.stash(0) > 0;
            seen[1] |= x.stash(1) > 0;
            x.start(77, 8);
            due.is("stash(0) after start", x.stash(0), 0);
            due.is("stash(1) after start", x.stash(1), 0);
            sameAccesses(due, x);
        }
        due.is("blocks in both stashes were seen", seen[0] && seen[1], true);
    }

    private static void aDeadDeviceBeginsAnew(Due due) {
        for (int tree = 0; tree < 2; tree++) {
            int died = tree;
            Run again = startedAgain(() -> Run.dead(BUSY.made(), died));
            due.is("state(3) ahead of start", Run.dead(BUSY.made(), tree).state(3), 1);
            sameStore(due, "start(77, 8) of a dead device", again, modelOf(77, 8));
            isFresh(due, "start(77, 8) of a dead device", again.made());
            sameAccesses(due, again.made());
        }
    }

    private static void twoStartsAreAsOne(Due due) {
        Run again = startedAgain(() -> Run.started(77, 8));
        sameStore(due, "start(77, 8) twice", again, modelOf(77, 8));
        sameAccesses(due, again.made());
    }

    private static void eightFilesAreGone(Due due) {
        VeiledFiles x = startedAgain(BUSY).made();
        for (int f = 0; f < 8; f++) {
            int file = f;
            due.is("find(" + f + ")", x.find(f), -1);
            due.is("size(" + f + ")", x.size(f), -1);
            due.outOfBounds("read(" + f + ", 0)", () -> x.read(file, 0));
        }
        for (int f = 0; f < 8; f++) {
            due.is("create(" + f + ")", x.create(f), f);
            due.is("size(" + f + ")", x.size(f), 0);
        }
    }

    private static Run startedAgain(Run run) {
        return () -> {
            VeiledFiles x = run.made();
            x.start(77, 8);
            return x;
        };
    }

    /** What is drawn after the start is as in a run that begins with it. */
    private static void sameAccesses(Due due, VeiledFiles x) {
        VeiledFiles y = Run.started(77, 8);
        for (VeiledFiles each : List.of(x, y)) {
            each.create(6);
            Run.writeWords(each, 0, 9);
            each.idle();
        }
        for (int k = 0; k < 11; k++) {
            due.is("trace(" + k + ", 0)", x.trace(k, 0), y.trace(k, 0));
            due.is("trace(" + k + ", 1)", x.trace(k, 1), y.trace(k, 1));
        }
        due.is("words of bucket 0 as due",
                Store.same(Store.words(x, 1, 0), Store.words(y, 1, 0)), 25);
        due.is("read(0, 8)", x.read(0, 8), Run.wordAt(8));
    }

    private static void isFresh(Due due, String call, VeiledFiles x) {
        due.is(call + ", state(0)", x.state(0), 0);
        due.is(call + ", state(1)", x.state(1), 0);
        due.is(call + ", state(2)", x.state(2), 64);
        due.is(call + ", state(3)", x.state(3), 0);
        due.is(call + ", stash(0)", x.stash(0), 0);
        due.is(call + ", stash(1)", x.stash(1), 0);
        for (int k = 0; k < 64; k++) {
            due.is(call + ", trace(" + k + ", 0)", x.trace(k, 0), -1);
            due.is(call + ", trace(" + k + ", 1)", x.trace(k, 1), -1);
        }
        for (int f = 0; f < 8; f++) {
            due.is(call + ", size(" + f + ")", x.size(f), -1);
        }
        due.is(call + ", find(0)", x.find(0), -1);
    }

    private static void sameStore(Due due, String call, Run run, Model want) {
        for (int tree = 0; tree < 2; tree++) {
            for (int b = 0; b < Store.BUCKETS[tree]; b++) {
                VeiledFiles x = run.made();
                String place = "(" + tree + ", " + b;
                due.is(call + ", counter" + place + ")", x.counter(tree, b), 1);
                for (int i = 0; i < Store.WORDS; i++) {
                    due.is(call + ", sealed" + place + ", " + i + ")",
                            x.sealed(tree, b, i), want.sealed(tree, b, i));
                }
            }
        }
    }

    private static Model modelOf(int seed, int key) {
        Model model = new Model();
        model.start(seed, key);
        return model;
    }
}
