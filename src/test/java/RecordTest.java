/** Promises 13 to 15: trace, stash, state. */
public final class RecordTest {
    public static void main(String[] args) {
        Sentences sentences = new Sentences();
        sentences.of("Promise 13");
        sentences.holds("0 the latest", RecordTest::leavesOfAccessesAreKept);
        sentences.holds("the latest 64 are kept", RecordTest::sixtyFourAreKept);
        sentences.holds("M; NONE if the device died ahead of it", RecordTest::aDeathInTheMapHasNoM);
        sentences.holds("M, if the device died behind it", RecordTest::aDeathInDataHasItsM);
        sentences.holds("NONE if there is none such", RecordTest::noSuchAccessIsTold);
        sentences.holds("NONE for another what", RecordTest::noOtherKindOfTrace);
        sentences.of("Promise 14");
        sentences.holds("How many blocks are in the STASH of a tree",
                RecordTest::blocksAreLeftInTheStash);
        sentences.holds("NONE if there is none such", RecordTest::noSuchTreeHasAStash);
        sentences.of("Promise 15");
        sentences.holds("0: accesses since the start", RecordTest::accessesAreCounted);
        sentences.holds("0: also one that found a wrong TAG", RecordTest::aDyingAccessCounts);
        sentences.holds("1: files, from 0 to 8", RecordTest::filesAreCounted);
        sentences.holds("2: free data blocks, from 64 to 16", RecordTest::freeBlocksAreCounted);
        sentences.holds("3: 1 if the device is DEAD, else 0", RecordTest::deathIsTold);
        sentences.holds("NONE for another what", RecordTest::noOtherKindOfState);
        sentences.end();
    }

    /** The leaf of each access is that drawn by the one before it to the same block. */
    private static void leavesOfAccessesAreKept(Due due) {
        VeiledFiles x = new VeiledFiles();
        x.create(5);
        x.write(0, 0, 77);
        due.is("trace(0, 0)", x.trace(0, 0), 0);
        due.is("trace(0, 1)", x.trace(0, 1), 14);
        for (int i = 1; i < 5; i++) {
            x.write(0, i, 77 + i);
        }
        x.read(0, 0);
        x.read(0, 4);
        due.is("trace(0, 0)", x.trace(0, 0), 3);
        due.is("trace(0, 1)", x.trace(0, 1), 25);
        due.is("trace(6, 0)", x.trace(6, 0), 0);
        due.is("trace(6, 1)", x.trace(6, 1), 14);
    }

    /** Around 64 and its double, where what is kept begins to be given up. */
    private static void sixtyFourAreKept(Due due) {
        for (int accesses : new int[] {1, 63, 64, 65, 127, 128, 129}) {
            VeiledFiles x = Run.started(6, 6);
            int[][] leaves = new int[2][accesses];
            for (int k = 0; k < accesses; k++) {
                x.idle();
                leaves[0][k] = x.trace(0, 0);
                leaves[1][k] = x.trace(0, 1);
            }
            for (int what = 0; what < 2; what++) {
                for (int k = 0; k < 26 && k < accesses; k++) {
                    due.is("trace(" + k + ", " + what + ") of " + accesses,
                            x.trace(k, what), leaves[what][accesses - 1 - k]);
                }
                for (int k = 61; k < 67; k++) {
                    boolean kept = k < 64 && k < accesses;
                    due.is("trace(" + k + ", " + what + ") of " + accesses,
                            x.trace(k, what), kept ? leaves[what][accesses - 1 - k] : -1);
                }
            }
        }
    }

    private static void aDeathInTheMapHasNoM(Due due) {
        VeiledFiles x = diedAtItsFirstWrite(0);
        due.is("trace(0, 0), the map being spoilt", x.trace(0, 0), 0);
        due.is("trace(0, 1), the map being spoilt", x.trace(0, 1), -1);
        VeiledFiles later = Run.dead(Run.idled(new VeiledFiles(), 70), 0);
        due.is("trace(0, 0) is kept", later.trace(0, 0) >= 0, true);
        due.is("trace(0, 1) of the access that died", later.trace(0, 1), -1);
        due.is("trace(1, 1) of the access before it", later.trace(1, 1) >= 0, true);
    }

    private static void aDeathInDataHasItsM(Due due) {
        VeiledFiles x = diedAtItsFirstWrite(1);
        due.is("trace(0, 0), data being spoilt", x.trace(0, 0), 0);
        due.is("trace(0, 1), data being spoilt", x.trace(0, 1), 11);
        due.is("trace(1, 0)", x.trace(1, 0), -1);
    }

    private static VeiledFiles diedAtItsFirstWrite(int tree) {
        VeiledFiles x = Run.started(7, 7);
        x.create(3);
        Run.spoilt(x, tree);
        Due.thrownBy(() -> x.write(0, 0, 5));
        return x;
    }

    private static void noSuchAccessIsTold(Due due) {
        int[] noAccesses = {-1, -6, 64, 65, 70, Integer.MIN_VALUE, Integer.MAX_VALUE};
        VeiledFiles x = new VeiledFiles();
        for (int what = 0; what < 2; what++) {
            due.is("trace(0, " + what + ") ahead of all accesses", x.trace(0, what), -1);
            VeiledFiles three = Run.idled(new VeiledFiles(), 3);
            due.is("trace(2, " + what + ") of three is there", three.trace(2, what) >= 0, true);
            due.is("trace(3, " + what + ") of three", three.trace(3, what), -1);
            VeiledFiles many = Run.idled(new VeiledFiles(), 70);
            for (int k : noAccesses) {
                due.is("trace(" + k + ", " + what + ") of none", x.trace(k, what), -1);
                due.is("trace(" + k + ", " + what + ") of 70", many.trace(k, what), -1);
            }
        }
    }

    private static void noOtherKindOfTrace(Due due) {
        VeiledFiles x = Run.idled(new VeiledFiles(), 70);
        for (int what : new int[] {-1, 2, 3, Integer.MIN_VALUE, Integer.MAX_VALUE}) {
            due.is("trace(0, " + what + ")", x.trace(0, what), -1);
            due.is("trace(63, " + what + ")", x.trace(63, what), -1);
        }
    }

    /** Seeds after which blocks come to lie in the stash; the model tells how many. */
    private static void blocksAreLeftInTheStash(Due due) {
        int[] seen = new int[2];
        for (int seed = 1; seed <= 300; seed++) {
            VeiledFiles x = Run.started(seed * 7919, seed);
            Model model = new Model();
            model.start(seed * 7919, seed);
            for (int k = 0; k < 150; k++) {
                x.idle();
                model.idle();
                for (int tree = 0; tree < 2; tree++) {
                    due.is("stash(" + tree + ")", x.stash(tree), model.stash(tree));
                    seen[tree] = Math.max(seen[tree], model.stash(tree));
                }
            }
        }
        due.is("a block of the map was in the stash", seen[0] > 0, true);
        due.is("a block of data was in the stash", seen[1] > 0, true);
    }

    private static void noSuchTreeHasAStash(Due due) {
        VeiledFiles x = new VeiledFiles();
        for (int tree : new int[] {-1, 2, 3, Integer.MIN_VALUE, Integer.MAX_VALUE}) {
            due.is("stash(" + tree + ")", x.stash(tree), -1);
        }
        due.is("stash(0)", x.stash(0), 0);
        due.is("stash(1)", x.stash(1), 0);
    }

    private static void accessesAreCounted(Due due) {
        VeiledFiles x = new VeiledFiles();
        due.is("state(0) at the start", x.state(0), 0);
        x.create(0);
        x.write(0, 0, 1);
        x.read(0, 0);
        x.idle();
        due.is("state(0)", x.state(0), 3);
        x.create(1);
        x.find(1);
        x.size(0);
        x.remove(1);
        x.alter(1, 62, 0, 0);
        due.outOfBounds("read(0, 1)", () -> x.read(0, 1));
        due.outOfBounds("write(0, 2, 0)", () -> x.write(0, 2, 0));
        due.is("state(0) after calls without an access", x.state(0), 3);
        x.start(1, 0);
        due.is("state(0) at a new start", x.state(0), 0);
        due.is("state(0) of more than are kept", Run.idled(x, 130).state(0), 130);
    }

    private static void aDyingAccessCounts(Due due) {
        for (int tree = 0; tree < 2; tree++) {
            VeiledFiles x = Run.spoilt(Run.withWords(3), tree);
            due.is("state(0)", x.state(0), 3);
            due.illegalState("idle()", x::idle);
            due.is("state(0), the last being the one that died", x.state(0), 4);
            due.illegalState("idle()", x::idle);
            due.illegalState("read(0, 0)", () -> x.read(0, 0));
            due.is("state(0) of a dead device", x.state(0), 4);
        }
    }

    private static void filesAreCounted(Due due) {
        VeiledFiles x = new VeiledFiles();
        for (int f = 0; f < 8; f++) {
            due.is("state(1)", x.state(1), f);
            x.create(f);
        }
        due.is("state(1) of eight", x.state(1), 8);
        x.create(8);
        due.is("state(1), a ninth being refused", x.state(1), 8);
        for (int f = 7; f >= 0; f--) {
            x.remove(f);
            x.remove(f);
            due.is("state(1) after remove(" + f + ")", x.state(1), f);
        }
    }

    private static void freeBlocksAreCounted(Due due) {
        VeiledFiles x = new VeiledFiles();
        due.is("state(2) with no files", x.state(2), 64);
        for (int f = 0; f < 8; f++) {
            x.create(f);
            due.is("state(2) with an empty file more", x.state(2), 64 - 6 * f);
            Run.writeWords(x, f, 24);
        }
        due.is("state(2), all files being full", x.state(2), 16);
        for (int f = 0; f < 8; f++) {
            x.remove(f);
            due.is("state(2) after remove(" + f + ")", x.state(2), 22 + 6 * f);
        }
    }

    private static void deathIsTold(Due due) {
        for (int tree = 0; tree < 2; tree++) {
            VeiledFiles x = Run.withWords(3);
            due.is("state(3)", x.state(3), 0);
            Run.spoilt(x, tree);
            due.is("state(3), not noticed yet", x.state(3), 0);
            due.illegalState("idle()", x::idle);
            due.is("state(3), a wrong tag being found", x.state(3), 1);
            x.remove(0);
            due.is("state(3), for good", x.state(3), 1);
            x.start(1, 0);
            due.is("state(3) at a new start", x.state(3), 0);
        }
    }

    private static void noOtherKindOfState(Due due) {
        VeiledFiles x = Run.withWords(3);
        for (int what : new int[] {-1, 4, 5, Integer.MIN_VALUE, Integer.MAX_VALUE}) {
            due.is("state(" + what + ")", x.state(what), -1);
        }
    }
}
