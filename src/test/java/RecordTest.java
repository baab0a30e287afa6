/** Promises 13 to 15: trace, stash, state. */
public final class RecordTest {
    /** More than are kept, few enough for the 512 calls of an object. */
    private static final int ACCESSES = 100;
    private static final Due due = new Due();

    public static void main(String[] args) {
        leavesOfAccessesAreKept();
        sixtyFourAreKept();
        aDyingAccessIsKept();
        wrongPlacesOfTrace();
        blocksAreLeftInTheStash();
        wrongTreesOfStash();
        accessesAreCounted();
        filesAndBlocksAreCounted();
        wrongKindsOfState();
        due.end();
    }

    /** The leaf of each access is that drawn by the one before it to the same block. */
    private static void leavesOfAccessesAreKept() {
        VeiledFiles x = new VeiledFiles();
        x.create(5);
        x.write(0, 0, 77);
        due.is("trace(0, 0)", x.trace(0, 0), 0);
        due.is("trace(0, 1)", x.trace(0, 1), 14);
        for (int i = 1; i < 5; i++) {
            x.write(0, i, 77 + i);
        }
        x.read(0, 0);
        x.read(0, 4);
        due.is("trace(0, 0)", x.trace(0, 0), 3);
        due.is("trace(0, 1)", x.trace(0, 1), 25);
        due.is("trace(6, 0)", x.trace(6, 0), 0);
        due.is("trace(6, 1)", x.trace(6, 1), 14);
        due.is("trace(7, 0)", x.trace(7, 0), -1);
        due.is("trace(7, 1)", x.trace(7, 1), -1);
    }

    private static void sixtyFourAreKept() {
        VeiledFiles x = new VeiledFiles();
        x.start(6, 6);
        int[] mapLeaves = new int[ACCESSES];
        int[] leaves = new int[ACCESSES];
        for (int k = 0; k < ACCESSES; k++) {
            due.is("trace(" + Math.min(k, 64) + ", 0)", x.trace(Math.min(k, 64), 0), -1);
            x.idle();
            mapLeaves[k] = x.trace(0, 0);
            leaves[k] = x.trace(0, 1);
        }
        for (int k = 0; k < 40; k++) {
            due.is("trace(" + k + ", 0)", x.trace(k, 0), mapLeaves[ACCESSES - 1 - k]);
            due.is("trace(" + k + ", 1)", x.trace(k, 1), leaves[ACCESSES - 1 - k]);
        }
        due.is("trace(63, 0)", x.trace(63, 0), mapLeaves[ACCESSES - 64]);
        due.is("trace(63, 1)", x.trace(63, 1), leaves[ACCESSES - 64]);
        due.is("trace(64, 0)", x.trace(64, 0), -1);
        due.is("trace(64, 1)", x.trace(64, 1), -1);
        due.is("trace(99, 0)", x.trace(99, 0), -1);
    }

    private static void aDyingAccessIsKept() {
        VeiledFiles x = new VeiledFiles();
        x.start(7, 7);
        x.create(3);
        x.alter(1, 0, 24, 0);
        due.illegalState("write(0, 0, 5)", () -> x.write(0, 0, 5));
        due.is("trace(0, 0), data being spoilt", x.trace(0, 0), 0);
        due.is("trace(0, 1), data being spoilt", x.trace(0, 1), 11);
        x.start(7, 7);
        x.create(3);
        x.alter(0, 0, 24, 0);
        due.illegalState("write(0, 0, 5)", () -> x.write(0, 0, 5));
        due.illegalState("write(0, 0, 5) again", () -> x.write(0, 0, 5));
        due.is("trace(0, 0), the map being spoilt", x.trace(0, 0), 0);
        due.is("trace(0, 1), the map being spoilt", x.trace(0, 1), -1);
        due.is("trace(1, 0)", x.trace(1, 0), -1);
    }

    private static void wrongPlacesOfTrace() {
        VeiledFiles x = new VeiledFiles();
        due.is("trace(0, 0) ahead of all accesses", x.trace(0, 0), -1);
        for (int k = 0; k < 70; k++) {
            x.idle();
        }
        int[] noAccesses = {-1, -6, 64, 65, 70, Integer.MIN_VALUE, Integer.MAX_VALUE};
        for (int k : noAccesses) {
            due.is("trace(" + k + ", 0)", x.trace(k, 0), -1);
            due.is("trace(" + k + ", 1)", x.trace(k, 1), -1);
        }
        int[] noKinds = {-1, 2, 3, Integer.MIN_VALUE, Integer.MAX_VALUE};
        for (int what : noKinds) {
            due.is("trace(0, " + what + ")", x.trace(0, what), -1);
        }
    }

    /** Seeds after which blocks come to lie in the stash; the model tells how many. */
    private static void blocksAreLeftInTheStash() {
        int[] seen = new int[2];
        for (int seed = 1; seed <= 300; seed++) {
            VeiledFiles x = new VeiledFiles();
            Model model = new Model();
            x.start(seed * 7919, seed);
            model.start(seed * 7919, seed);
            for (int k = 0; k < 150; k++) {
                x.idle();
                model.idle();
                for (int tree = 0; tree < 2; tree++) {
                    due.is("stash(" + tree + ")", x.stash(tree), model.stash(tree));
                    seen[tree] = Math.max(seen[tree], model.stash(tree));
                }
            }
        }
        due.is("a block of the map was in the stash", seen[0] > 0, true);
        due.is("a block of data was in the stash", seen[1] > 0, true);
    }

    private static void wrongTreesOfStash() {
        VeiledFiles x = new VeiledFiles();
        int[] noTrees = {-1, 2, 3, Integer.MIN_VALUE, Integer.MAX_VALUE};
        for (int tree : noTrees) {
            due.is("stash(" + tree + ")", x.stash(tree), -1);
        }
        due.is("stash(0)", x.stash(0), 0);
        due.is("stash(1)", x.stash(1), 0);
    }

    private static void accessesAreCounted() {
        VeiledFiles x = new VeiledFiles();
        x.create(0);
        x.write(0, 0, 1);
        x.read(0, 0);
        x.idle();
        due.is("state(0)", x.state(0), 3);
        x.create(1);
        x.find(1);
        x.size(0);
        x.remove(1);
        due.outOfBounds("read(0, 1)", () -> x.read(0, 1));
        due.is("state(0) after calls without an access", x.state(0), 3);
        due.is("state(3)", x.state(3), 0);
        x.alter(0, 0, 24, 1);
        due.is("state(3), not noticed yet", x.state(3), 0);
        due.illegalState("idle()", x::idle);
        due.is("state(0), the last being the one that died", x.state(0), 4);
        due.is("state(3)", x.state(3), 1);
        due.illegalState("idle()", x::idle);
        due.is("state(0) of a dead device", x.state(0), 4);
    }

    private static void filesAndBlocksAreCounted() {
        VeiledFiles x = new VeiledFiles();
        for (int f = 0; f < 8; f++) {
            due.is("state(1)", x.state(1), f);
            x.create(f);
            due.is("state(2)", x.state(2), 64 - 2 * f);
            for (int i = 0; i < 5; i++) {
                x.write(f, i, i);
            }
        }
        due.is("state(1)", x.state(1), 8);
        due.is("state(2)", x.state(2), 48);
        x.remove(4);
        due.is("state(1)", x.state(1), 7);
        due.is("state(2)", x.state(2), 50);
    }

    private static void wrongKindsOfState() {
        VeiledFiles x = new VeiledFiles();
        int[] noKinds = {-1, 4, 5, Integer.MIN_VALUE, Integer.MAX_VALUE};
        for (int what : noKinds) {
            due.is("state(" + what + ")", x.state(what), -1);
        }
    }
}
