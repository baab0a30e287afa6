/** Promises 3 to 6: create, find, remove, size. */
public final class BookTest {
    private static final int[] NO_FILES = {-1, 8, 9, 64, Integer.MIN_VALUE, Integer.MAX_VALUE};
    private static final long[] NAMES =
            {0, -1, Long.MIN_VALUE, Long.MAX_VALUE, 1L << 32, 0xffffffffL, 1};

    public static void main(String[] args) {
        Sentences sentences = new Sentences();
        sentences.of("Promise 3");
        sentences.holds("its number, the least free one", BookTest::numbersAreTheLeastFree);
        sentences.holds("NONE if there is one of this name", BookTest::aNameIsTakenOnce);
        sentences.holds("NONE if there are eight", BookTest::thereAreEightAtMost);
        sentences.holds("NONE, and nothing is changed", BookTest::aRefusedNameChangesNothing);
        sentences.holds("A file with a name (a long)", BookTest::namesAreWholeLongs);
        sentences.of("Promise 4");
        sentences.holds("The file with a name", BookTest::filesAreFound);
        sentences.holds("NONE for none", BookTest::whatIsNotThereIsNotFound);
        sentences.of("Promise 5");
        sentences.holds("A file and all it has are gone", BookTest::aRemovedFileIsGone);
        sentences.holds("without an access", BookTest::aRemovalMakesNoAccess);
        sentences.holds("its blocks are free", BookTest::removedBlocksAreFree);
        sentences.holds("false if there is none such", BookTest::noneSuchIsNotRemoved);
        sentences.holds("remove, the device being DEAD", BookTest::theBookOutlivesTheDevice);
        sentences.of("Promise 6");
        sentences.holds("How many words a file has, from 0 to 24",
                BookTest::sizesGrowByWritesAlone);
        sentences.holds("NONE if there is none such", BookTest::noneSuchHasNoSize);
        sentences.end();
    }

    private static void numbersAreTheLeastFree(Due due) {
        VeiledFiles x = withFiles(8);
        x.remove(7);
        x.remove(3);
        x.remove(0);
        due.is("create(100), 0, 3 and 7 being free", x.create(100), 0);
        due.is("create(101), 3 and 7 being free", x.create(101), 3);
        due.is("create(102), 7 being free", x.create(102), 7);
    }

    /** Files 0, 1, .. with the names 0, 1, .. */
    private static VeiledFiles withFiles(int count) {
        VeiledFiles x = new VeiledFiles();
        for (int f = 0; f < count; f++) {
            x.create(f);
        }
        return x;
    }

    private static void aNameIsTakenOnce(Due due) {
        VeiledFiles x = withFiles(3);
        due.is("create(0) again", x.create(0), -1);
        due.is("create(2) again", x.create(2), -1);
        due.is("remove(1)", x.remove(1), true);
        due.is("create(2), a lesser number being free", x.create(2), -1);
        due.is("create(1), its file being gone", x.create(1), 1);
    }

    private static void thereAreEightAtMost(Due due) {
        VeiledFiles x = new VeiledFiles();
        for (int f = 0; f < 8; f++) {
            due.is("create(" + f + ")", x.create(f), f);
        }
        due.is("create(8), eight being there", x.create(8), -1);
        due.is("create(3), eight being there, one of this name", x.create(3), -1);
        x.remove(7);
        due.is("create(8), seven being there", x.create(8), 7);
    }

    private static void aRefusedNameChangesNothing(Due due) {
        VeiledFiles x = withFiles(8);
        Run.writeWords(x, 3, 5);
        x.create(3);
        x.create(8);
        due.is("state(0)", x.state(0), 5);
        due.is("state(1)", x.state(1), 8);
        due.is("state(2)", x.state(2), 62);
        due.is("find(8)", x.find(8), -1);
        due.is("find(3)", x.find(3), 3);
        due.is("size(3)", x.size(3), 5);
        due.is("read(3, 4)", x.read(3, 4), Run.wordAt(4));
        for (int f = 0; f < 8; f++) {
            due.is("find(" + f + ")", x.find(f), f);
        }
    }

    /** Some of these names have the same upper or lower half. */
    private static void namesAreWholeLongs(Due due) {
        VeiledFiles x = new VeiledFiles();
        for (int f = 0; f < NAMES.length; f++) {
            due.is("create(" + NAMES[f] + ")", x.create(NAMES[f]), f);
            due.is("create(" + NAMES[f] + ") again", x.create(NAMES[f]), -1);
        }
    }

    private static void filesAreFound(Due due) {
        VeiledFiles x = new VeiledFiles();
        for (int f = 0; f < NAMES.length; f++) {
            due.is("find(" + NAMES[f] + ") ahead of it", x.find(NAMES[f]), -1);
            x.create(NAMES[f]);
        }
        for (int f = 0; f < NAMES.length; f++) {
            due.is("find(" + NAMES[f] + ")", x.find(NAMES[f]), f);
        }
    }

    private static void whatIsNotThereIsNotFound(Due due) {
        VeiledFiles x = new VeiledFiles();
        due.is("find(0) with no files", x.find(0), -1);
        x.create(40);
        x.create(41);
        due.is("find(0) with files of other names", x.find(0), -1);
        due.is("find(42)", x.find(42), -1);
        due.is("find(1), a file's number", x.find(1), -1);
        x.remove(0);
        due.is("find(40), its file being gone", x.find(40), -1);
        due.is("find(41), the other being gone", x.find(41), 1);
        x.create(43);
        due.is("find(40), its number being another's", x.find(40), -1);
    }

    private static void aRemovedFileIsGone(Due due) {
        VeiledFiles x = Run.withWords(24);
        due.is("remove(0)", x.remove(0), true);
        due.is("size(0)", x.size(0), -1);
        due.is("find(1)", x.find(1), -1);
        due.is("state(1)", x.state(1), 0);
        due.outOfBounds("read(0, 0)", () -> x.read(0, 0));
        due.outOfBounds("write(0, 0, 0)", () -> x.write(0, 0, 0));
        due.is("create(1)", x.create(1), 0);
        due.is("size(0) of a new file of this name", x.size(0), 0);
        due.outOfBounds("read(0, 0) of the new file", () -> x.read(0, 0));
    }

    private static void aRemovalMakesNoAccess(Due due) {
        Run kept = () -> Run.withWords(9);
        Run removed = () -> {
            VeiledFiles x = kept.made();
            due.is("remove(0)", x.remove(0), true);
            return x;
        };
        due.is("state(0)", removed.made().state(0), 9);
        due.is("trace(9, 0)", removed.made().trace(9, 0), -1);
        for (int tree = 0; tree < 2; tree++) {
            for (int b = 0; b < Store.BUCKETS[tree]; b++) {
                int[] before = Store.words(kept.made(), tree, b);
                due.is("words of bucket " + b + " of tree " + tree + " as before",
                        Store.same(before, Store.words(removed.made(), tree, b)), 25);
            }
        }
        VeiledFiles next = Run.idled(removed.made(), 1);
        VeiledFiles want = Run.idled(kept.made(), 1);
        due.is("trace(0, 0) of the next access", next.trace(0, 0), want.trace(0, 0));
        due.is("trace(0, 1) of the next access", next.trace(0, 1), want.trace(0, 1));
    }

    private static void removedBlocksAreFree(Due due) {
        int[] words = {0, 1, 4, 5, 23, 24};
        int[] parts = {0, 1, 1, 2, 6, 6};
        VeiledFiles x = withFiles(6);
        int used = 0;
        for (int f = 0; f < words.length; f++) {
            Run.writeWords(x, f, words[f]);
            used += parts[f];
        }
        due.is("state(2)", x.state(2), 64 - used);
        for (int f = 0; f < words.length; f++) {
            due.is("remove(" + f + ")", x.remove(f), true);
            used -= parts[f];
            due.is("state(2), a file of " + words[f] + " words being gone", x.state(2), 64 - used);
            for (int g = f + 1; g < words.length; g++) {
                due.is("the last word of file " + g, x.read(g, words[g] - 1),
                        Run.wordAt(words[g] - 1));
            }
        }
    }

    private static void noneSuchIsNotRemoved(Due due) {
        VeiledFiles x = new VeiledFiles();
        due.is("remove(0) with no files", x.remove(0), false);
        x.create(1);
        for (int file : NO_FILES) {
            due.is("remove(" + file + ")", x.remove(file), false);
        }
        due.is("remove(1), a free number", x.remove(1), false);
        due.is("state(1) after refused removals", x.state(1), 1);
        Run.writeWords(x, 0, 5);
        due.is("remove(0)", x.remove(0), true);
        due.is("remove(0) again", x.remove(0), false);
        due.is("state(1) after a removal", x.state(1), 0);
        due.is("state(2) after a removal", x.state(2), 64);
    }

    private static void theBookOutlivesTheDevice(Due due) {
        VeiledFiles x = Run.dead(Run.withWords(5), 0);
        due.is("size(0), the device being dead", x.size(0), 5);
        due.is("find(1), the device being dead", x.find(1), 0);
        due.is("create(2), the device being dead", x.create(2), 1);
        due.is("remove(0), the device being dead", x.remove(0), true);
        due.is("state(2), the device being dead", x.state(2), 64);
    }

    private static void sizesGrowByWritesAlone(Due due) {
        VeiledFiles x = withFiles(1);
        for (int i = 0; i < 24; i++) {
            due.is("size(0)", x.size(0), i);
            x.write(0, i, i);
            due.is("size(0) after a word more", x.size(0), i + 1);
            x.write(0, i / 2, i);
            x.read(0, i);
            x.idle();
        }
        due.is("size(0) of a full file", x.size(0), 24);
        due.outOfBounds("write(0, 24, 0)", () -> x.write(0, 24, 0));
        due.is("size(0) after a refused write", x.size(0), 24);
    }

    private static void noneSuchHasNoSize(Due due) {
        VeiledFiles x = new VeiledFiles();
        due.is("size(0) with no files", x.size(0), -1);
        x.create(1);
        for (int file : NO_FILES) {
            due.is("size(" + file + ")", x.size(file), -1);
        }
        due.is("size(1), a free number", x.size(1), -1);
        due.is("size(7), a free number", x.size(7), -1);
        x.remove(0);
        due.is("size(0), its file being gone", x.size(0), -1);
    }
}
