/** Promises 7 to 9: write, read, idle. */
public final class AccessTest {
    private static final int[] ENDS = {0, -1, Integer.MIN_VALUE, Integer.MAX_VALUE, 1};
    /** File 0 is there, the others are not. */
    private static final int[] NO_FILES = {-1, 1, 7, 8, Integer.MIN_VALUE, Integer.MAX_VALUE};

    public static void main(String[] args) {
        Sentences sentences = new Sentences();
        writing(sentences);
        reading(sentences);
        idling(sentences);
        sentences.end();
    }

    private static void writing(Sentences sentences) {
        sentences.of("Promise 7");
        sentences.holds("Word i of a file becomes v", AccessTest::wordsAreChanged);
        sentences.holds("Word i of a file, all files being full", AccessTest::wordsAreKept);
        sentences.holds("i may be how many it has: it has one more",
                AccessTest::filesGrowAtTheirEnd);
        sentences.holds("by one access", AccessTest::aWriteIsOneAccess);
        sentences.holds("IndexOutOfBoundsException: there is no such file",
                AccessTest::noSuchFileIsWritten);
        sentences.holds("IndexOutOfBoundsException: there is no such place",
                AccessTest::noSuchPlaceIsWritten);
        sentences.holds("IndexOutOfBoundsException: it would have more than 24",
                AccessTest::aFullFileDoesNotGrow);
        sentences.holds("IndexOutOfBoundsException, and nothing happens",
                AccessTest::aRefusedWriteIsNoAccess);
        sentences.holds("IllegalStateException: the device is DEAD",
                AccessTest::nothingDeadIsWritten);
        sentences.holds("IllegalStateException: or comes to be so (the file stays as it was)",
                AccessTest::aDyingWriteLeavesTheFile);
        sentences.holds("IllegalStateException: a block that was to be got is free",
                AccessTest::aDyingWriteGetsNoBlock);
    }

    private static void reading(Sentences sentences) {
        sentences.of("Promise 8");
        sentences.holds("Word i of a file, the first and the last", AccessTest::wordsAreRead);
        sentences.holds("by one access", AccessTest::aReadIsOneAccess);
        sentences.holds("IndexOutOfBoundsException: there is none such, no file",
                AccessTest::noSuchFileIsRead);
        sentences.holds("IndexOutOfBoundsException: there is none such, no place",
                AccessTest::noSuchPlaceIsRead);
        sentences.holds("IndexOutOfBoundsException, and nothing happens",
                AccessTest::aRefusedReadIsNoAccess);
        sentences.holds("IllegalStateException: the device is DEAD", AccessTest::nothingDeadIsRead);
        sentences.holds("IllegalStateException: or comes to be so",
                AccessTest::aReadFindsAWrongTag);
    }

    private static void idling(Sentences sentences) {
        sentences.of("Promise 9");
        sentences.holds("An access to block DRAW(6), from 0 to 63",
                AccessTest::anIdleAccessGoesToADrawnBlock);
        sentences.holds("that reads nothing", AccessTest::anIdleAccessChangesNoFile);
        sentences.holds("IllegalStateException: the device is DEAD", AccessTest::nothingDeadIdles);
        sentences.holds("IllegalStateException: or comes to be so",
                AccessTest::idlingFindsAWrongTag);
    }

    private static void wordsAreChanged(Due due) {
        VeiledFiles x = Run.withWords(5);
        for (int i = 0; i < 5; i++) {
            x.write(0, i, ENDS[i]);
            due.is("read(0, " + i + ")", x.read(0, i), ENDS[i]);
        }
        x.write(0, 1, 222);
        x.write(0, 4, 444);
        int[] words = {0, 222, Integer.MIN_VALUE, Integer.MAX_VALUE, 444};
        for (int i = 0; i < 5; i++) {
            due.is("read(0, " + i + ") after changes", x.read(0, i), words[i]);
        }
        due.is("size(0)", x.size(0), 5);
    }

    private static void wordsAreKept(Due due) {
        VeiledFiles x = Run.filled(new VeiledFiles());
        for (int f = 0; f < 8; f++) {
            for (int i = 0; i < 24; i++) {
                due.is("read(" + f + ", " + i + ")", x.read(f, i), Run.wordAt(24 * f + i));
            }
        }
    }

    private static void filesGrowAtTheirEnd(Due due) {
        VeiledFiles x = Run.withWords(0);
        for (int i = 0; i < 24; i++) {
            int at = i;
            due.nothingThrown("write(0, " + i + ", 1) at the end", () -> x.write(0, at, 1));
            due.is("size(0)", x.size(0), i + 1);
            x.write(0, i, 2);
            x.write(0, 0, 3);
            due.is("size(0) after changes", x.size(0), i + 1);
        }
    }

    private static void aWriteIsOneAccess(Due due) {
        for (int words : new int[] {0, 1, 3, 4, 23}) {
            VeiledFiles x = Run.withWords(words);
            goesOverItsPaths(due, "write at the end of " + words, x, () -> x.write(0, words, 1));
            goesOverItsPaths(due, "write of word 0", x, () -> x.write(0, 0, 1));
        }
    }

    private static void aReadIsOneAccess(Due due) {
        VeiledFiles x = Run.withWords(24);
        goesOverItsPaths(due, "read(0, 0)", x, () -> x.read(0, 0));
        goesOverItsPaths(due, "read(0, 23)", x, () -> x.read(0, 23));
    }

    private static void goesOverItsPaths(Due due, String call, VeiledFiles x, Runnable access) {
        int[][] before = {Store.counters(x, 0), Store.counters(x, 1)};
        int accesses = x.state(0);
        access.run();
        due.is(call + ", state(0)", x.state(0), accesses + 1);
        for (int tree = 0; tree < 2; tree++) {
            int leaf = x.trace(0, tree);
            int[] after = Store.counters(x, tree);
            for (int b = 0; b < after.length; b++) {
                int more = Store.isOnPath(tree, leaf, b) ? 1 : 0;
                due.is(call + ", counter(" + tree + ", " + b + ")",
                        after[b], before[tree][b] + more);
            }
        }
    }

    private static void noSuchFileIsWritten(Due due) {
        VeiledFiles x = Run.withWords(5);
        for (int file : NO_FILES) {
            due.outOfBounds("write(" + file + ", 0, 1)", () -> x.write(file, 0, 1));
            due.outOfBounds("write(" + file + ", -1, 1)", () -> x.write(file, -1, 1));
        }
        x.remove(0);
        due.outOfBounds("write(0, 0, 1), its file being gone", () -> x.write(0, 0, 1));
    }

    private static void noSuchPlaceIsWritten(Due due) {
        for (int words : new int[] {0, 1, 3, 4, 22}) {
            VeiledFiles x = Run.withWords(words);
            int[] noPlaces = {-1, -4, words + 1, words + 2, words + 4, 24, 25,
                Integer.MIN_VALUE, Integer.MAX_VALUE};
            for (int i : noPlaces) {
                due.outOfBounds("write(0, " + i + ", 1) of " + words, () -> x.write(0, i, 1));
            }
        }
    }

    private static void aFullFileDoesNotGrow(Due due) {
        VeiledFiles x = Run.withWords(23);
        due.nothingThrown("write(0, 23, 1), the 24th word", () -> x.write(0, 23, 1));
        due.outOfBounds("write(0, 24, 1), the 25th word", () -> x.write(0, 24, 1));
        due.outOfBounds("write(0, 25, 1)", () -> x.write(0, 25, 1));
        due.is("size(0)", x.size(0), 24);
        due.is("state(2)", x.state(2), 58);
        due.nothingThrown("write(0, 23, 2) of a full file", () -> x.write(0, 23, 2));
        due.is("read(0, 23)", x.read(0, 23), 2);
    }

    private static void aRefusedWriteIsNoAccess(Due due) {
        VeiledFiles x = Run.withWords(4);
        due.outOfBounds("write(0, 5, 1)", () -> x.write(0, 5, 1));
        due.outOfBounds("write(0, -1, 1)", () -> x.write(0, -1, 1));
        due.outOfBounds("write(1, 0, 1)", () -> x.write(1, 0, 1));
        isAsWith(due, 4, x);
        VeiledFiles full = Run.withWords(24);
        due.outOfBounds("write(0, 24, 1)", () -> full.write(0, 24, 1));
        isAsWith(due, 24, full);
    }

    private static void aRefusedReadIsNoAccess(Due due) {
        VeiledFiles x = Run.withWords(4);
        due.outOfBounds("read(0, 4)", () -> x.read(0, 4));
        due.outOfBounds("read(0, -1)", () -> x.read(0, -1));
        due.outOfBounds("read(1, 0)", () -> x.read(1, 0));
        isAsWith(due, 4, x);
    }

    /** Not even a draw was made: the next accesses go as without the refused calls. */
    private static void isAsWith(Due due, int words, VeiledFiles x) {
        VeiledFiles y = Run.withWords(words);
        due.is("state(0)", x.state(0), words);
        due.is("state(2)", x.state(2), y.state(2));
        due.is("size(0)", x.size(0), words);
        due.is("words of the uppermost bucket as before",
                Store.same(Store.words(x, 1, 0), Store.words(y, 1, 0)), 25);
        for (int k = 0; k < 10; k++) {
            x.idle();
            y.idle();
            due.is("trace(0, 0) of a later access", x.trace(0, 0), y.trace(0, 0));
            due.is("trace(0, 1) of a later access", x.trace(0, 1), y.trace(0, 1));
        }
    }

    /** The document names the place first; so it is looked at first, also of a dead device. */
    private static void nothingDeadIsWritten(Due due) {
        for (int tree = 0; tree < 2; tree++) {
            VeiledFiles x = Run.dead(Run.withWords(4), tree);
            due.illegalState("write(0, 0, 1) of a dead device", () -> x.write(0, 0, 1));
            due.illegalState("write(0, 4, 1) of a dead device", () -> x.write(0, 4, 1));
            due.outOfBounds("write(0, 5, 1) of a dead device", () -> x.write(0, 5, 1));
            due.outOfBounds("write(1, 0, 1) of a dead device", () -> x.write(1, 0, 1));
            staysDead(due, x, 5);
            due.is("state(2)", x.state(2), 63);
        }
    }

    private static void nothingDeadIsRead(Due due) {
        for (int tree = 0; tree < 2; tree++) {
            VeiledFiles x = Run.dead(Run.withWords(4), tree);
            due.illegalState("read(0, 0) of a dead device", () -> x.read(0, 0));
            due.illegalState("read(0, 3) of a dead device", () -> x.read(0, 3));
            due.outOfBounds("read(0, 4) of a dead device", () -> x.read(0, 4));
            due.outOfBounds("read(1, 0) of a dead device", () -> x.read(1, 0));
            staysDead(due, x, 5);
        }
    }

    private static void nothingDeadIdles(Due due) {
        for (int tree = 0; tree < 2; tree++) {
            VeiledFiles x = Run.dead(Run.withWords(4), tree);
            due.illegalState("idle() of a dead device", x::idle);
            due.illegalState("idle() of a dead device", x::idle);
            staysDead(due, x, 5);
        }
    }

    /** With four words in file 0, and no access after so many. */
    private static void staysDead(Due due, VeiledFiles x, int accesses) {
        due.is("state(0)", x.state(0), accesses);
        due.is("state(3)", x.state(3), 1);
        due.is("size(0)", x.size(0), 4);
        due.is("trace(" + accesses + ", 0)", x.trace(accesses, 0), -1);
        due.is("counter(1, 0)", x.counter(1, 0), 5);
    }

    /** The write is of an old word, of a new one, or of one in a new part. */
    private static void aDyingWriteLeavesTheFile(Due due) {
        for (int tree = 0; tree < 2; tree++) {
            for (int words : new int[] {0, 1, 3, 4, 23, 24}) {
                for (int i : new int[] {0, words / 2, Math.min(words, 23)}) {
                    VeiledFiles x = Run.spoilt(Run.withWords(words), tree);
                    due.is("state(3) ahead of it", x.state(3), 0);
                    due.illegalState("write(0, " + i + ", 1) of " + words, () -> x.write(0, i, 1));
                    due.is("state(3)", x.state(3), 1);
                    due.is("size(0)", x.size(0), words);
                    due.is("find(1)", x.find(1), 0);
                    due.is("state(0)", x.state(0), words + 1);
                    due.is("counter(1, 0)", x.counter(1, 0), words + 1);
                }
            }
        }
    }

    private static void aDyingWriteGetsNoBlock(Due due) {
        for (int tree = 0; tree < 2; tree++) {
            for (int words = 0; words < 24; words++) {
                VeiledFiles x = Run.spoilt(Run.withWords(words), tree);
                int end = words;
                int free = x.state(2);
                due.illegalState("write(0, " + end + ", 1)", () -> x.write(0, end, 1));
                due.is("state(2)", x.state(2), free);
                due.is("remove(0)", x.remove(0), true);
                due.is("state(2), the file being gone", x.state(2), 64);
            }
        }
    }

    private static void wordsAreRead(Due due) {
        for (int words : new int[] {1, 4, 5, 24}) {
            VeiledFiles x = Run.withWords(words);
            due.is("read(0, 0) of " + words, x.read(0, 0), Run.wordAt(0));
            due.is("the last of " + words, x.read(0, words - 1), Run.wordAt(words - 1));
            due.is("the last of " + words + " again", x.read(0, words - 1), Run.wordAt(words - 1));
        }
    }

    private static void noSuchFileIsRead(Due due) {
        VeiledFiles x = Run.withWords(5);
        for (int file : NO_FILES) {
            due.outOfBounds("read(" + file + ", 0)", () -> x.read(file, 0));
            due.outOfBounds("read(" + file + ", -1)", () -> x.read(file, -1));
        }
        x.remove(0);
        due.outOfBounds("read(0, 0), its file being gone", () -> x.read(0, 0));
    }

    private static void noSuchPlaceIsRead(Due due) {
        for (int words : new int[] {0, 1, 3, 4, 23, 24}) {
            VeiledFiles x = Run.withWords(words);
            int[] noPlaces = {-1, -4, words, words + 1, words + 4, 24, 25,
                Integer.MIN_VALUE, Integer.MAX_VALUE};
            for (int i : noPlaces) {
                due.outOfBounds("read(0, " + i + ") of " + words, () -> x.read(0, i));
            }
        }
    }

    private static void aReadFindsAWrongTag(Due due) {
        for (int tree = 0; tree < 2; tree++) {
            VeiledFiles x = Run.spoilt(Run.withWords(4), tree);
            due.illegalState("read(0, 0)", () -> x.read(0, 0));
            staysDead(due, x, 5);
        }
    }

    private static void idlingFindsAWrongTag(Due due) {
        for (int tree = 0; tree < 2; tree++) {
            VeiledFiles x = Run.spoilt(Run.withWords(4), tree);
            due.illegalState("idle()", x::idle);
            staysDead(due, x, 5);
        }
    }

    /** One access from each of many seeds, until every block was drawn. */
    private static void anIdleAccessGoesToADrawnBlock(Due due) {
        boolean[] seen = new boolean[64];
        for (int seed = 1; seed <= 1000; seed++) {
            Draws draws = new Draws(seed * 7919);
            int block = draws.next(6);
            seen[block] = true;
            VeiledFiles x = Run.idled(Run.started(seed * 7919, 3), 1);
            due.is("trace(0, 0) to block " + block, x.trace(0, 0), draws.mapLeaves[block / 8]);
            due.is("trace(0, 1) to block " + block, x.trace(0, 1), draws.leaves[block]);
        }
        for (int d = 0; d < 64; d++) {
            due.is("block " + d + " was drawn", seen[d], true);
        }
    }

    private static void anIdleAccessChangesNoFile(Due due) {
        VeiledFiles x = Run.idled(Run.withWords(24), 200);
        due.is("state(0)", x.state(0), 224);
        due.is("state(1)", x.state(1), 1);
        due.is("state(2)", x.state(2), 58);
        due.is("size(0)", x.size(0), 24);
        for (int i = 0; i < 24; i++) {
            due.is("read(0, " + i + ")", x.read(0, i), Run.wordAt(i));
        }
    }
}
