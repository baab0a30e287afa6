import java.util.Arrays;
import java.util.List;

/** The terms of the document: each sentence that names an edge has a test of its own. */
public final class TermsTest {
    private static final int KEY = 0x1234567;
    private static final int[] ENDS = {1, 0, -1, Integer.MIN_VALUE, Integer.MAX_VALUE};
    private static final Run FIVE_WORDS = () -> Run.withWords(5);

    public static void main(String[] args) {
        Sentences sentences = new Sentences();
        sentences.of("What it is");
        sentences.holds("An object is used for at most 512 calls after it has been made",
                TermsTest::the512thCallIsAnsweredToo);
        sentences.of("Terms, words and trees");
        sentences.holds("DRAW is its highest n bits, without a sign", TermsTest::drawsHaveNoSign);
        sentences.holds("tree 0 has LEAVES 0 .. 3, tree 1 LEAVES 0 .. 31",
                TermsTest::allLeavesAreDrawn);
        sentences.holds("tree 0 has blocks 0 .. 7, tree 1 BLOCKS 0 .. 63",
                TermsTest::eachBlockIsThereOnce);
        sentences.holds("The PATH of leaf L goes from bucket 0 to the L-th of the lowest ones, "
                + "from the left", TermsTest::pathsGoToTheirLeaves);
        sentences.holds("each lies in a bucket of the path of its leaf",
                TermsTest::blocksLieOnTheirPaths);
        sentences.holds("5 bits from bit 16 * (e % 2) on of its word e / 2",
                TermsTest::theMapHasTheLeavesOfData);
        sentences.of("Terms, sealing");
        sentences.holds("A bucket has four SLOTS, each with a block or none",
                TermsTest::bucketsAreEmptyOrFullOrBetween);
        sentences.holds("the block's number and 1 (0 if there is none), its leaf, its words "
                + "(0 if there is none)", TermsTest::slotsWithoutABlockAreZero);
        sentences.holds("PAD(i), all as ints", TermsTest::padsWrapAround);
        sentences.holds("the TAG: T becomes (T ^ sealed word i) * 16777619",
                TermsTest::tagsWrapAround);
        sentences.of("Terms, an access");
        sentences.holds("if the TAG of one of its buckets is wrong: the device is DEAD (nothing "
                + "else happens), in tree 0", TermsTest::nothingHappensWithAWrongMap);
        sentences.holds("likewise in tree 1", TermsTest::nothingHappensWithWrongData);
        sentences.holds("the TAG of one of its buckets, not that of another",
                TermsTest::otherBucketsMayBeWrong);
        sentences.holds("There block j gets its new leaf, having been in the STASH",
                TermsTest::mapBlocksAreFoundInTheStash);
        sentences.holds("its words are read, or changed, having been in the STASH",
                TermsTest::dataBlocksAreFoundInTheStash);
        sentences.holds("PUT BACK: the lowest first, by their numbers",
                TermsTest::blocksSinkAsFarAsTheyCan);
        sentences.holds("PUT BACK: at most four", TermsTest::whatFindsNoSlotStaysInTheStash);
        sentences.holds("PUT BACK: they are no more in the STASH",
                TermsTest::blocksComeBackFromTheStash);
        sentences.holds("PUT BACK: its COUNTER grows by 1; it is sealed",
                TermsTest::emptyBucketsAreSealedAnewToo);
        sentences.of("Terms, the start");
        sentences.holds("G is the seed (1 for 0)", TermsTest::seedZeroIsSeedOne);
        sentences.holds("each comes to the lowest bucket of its path that has a free slot (the "
                + "first free one)", TermsTest::blocksStartAsLowAsTheyCan);
        sentences.holds("all words of data are 0", TermsTest::dataStartAsZeroes);
        sentences.holds("All COUNTERS are 1", TermsTest::countersStartAtOne);
        sentences.of("Terms, files");
        sentences.holds("0 to 24 words in PARTS of four", TermsTest::partsAreOfFour);
        sentences.holds("gets the least free block", TermsTest::theLeastFreeBlockIsGot);
        sentences.holds("all whose words become 0 in that access", TermsTest::gotBlocksAreCleared);
        sentences.end();
    }

    private static void the512thCallIsAnsweredToo(Due due) {
        VeiledFiles x = Run.withWords(24);
        Run.idled(x, 512 - 26);
        due.is("read(0, 23), the 512th call", x.read(0, 23), Run.wordAt(23));
        due.is("counter(1, 0), the 512th call",
                Run.idled(new VeiledFiles(), 511).counter(1, 0), 512);
        due.is("state(0), the 512th call", Run.idled(new VeiledFiles(), 511).state(0), 511);
    }

    /** Seen from outside: the leaves of map block 0 and data block 0, at first and drawn anew. */
    private static void drawsHaveNoSign(Due due) {
        boolean[] highBit = new boolean[2];
        for (int n = -100; n < 100; n++) {
            int seed = n < 0 ? Integer.MAX_VALUE - n : n + 1;
            Draws draws = new Draws(seed);
            VeiledFiles x = Run.started(seed, KEY);
            x.create(0);
            x.write(0, 0, 1);
            due.is("trace(0, 0) of seed " + seed, x.trace(0, 0), draws.mapLeaves[0]);
            due.is("trace(0, 1) of seed " + seed, x.trace(0, 1), draws.leaves[0]);
            x.write(0, 0, 2);
            due.is("trace(0, 0), drawn anew, of seed " + seed, x.trace(0, 0), draws.next(2));
            due.is("trace(0, 1), drawn anew, of seed " + seed, x.trace(0, 1), draws.next(5));
            highBit[0] |= draws.mapLeaves[0] > 1;
            highBit[1] |= draws.leaves[0] > 15;
        }
        due.is("draws with the highest bit were seen", highBit[0] && highBit[1], true);
    }

    private static void allLeavesAreDrawn(Due due) {
        for (int tree = 0; tree < 2; tree++) {
            int[] seen = new int[Store.LEAVES[tree]];
            VeiledFiles x = new VeiledFiles();
            for (int k = 0; k < 250; k++) {
                x.idle();
                int leaf = x.trace(0, tree);
                due.is("a leaf of tree " + tree + " is there: " + leaf,
                        leaf >= 0 && leaf < seen.length, true);
                if (leaf >= 0 && leaf < seen.length) {
                    seen[leaf]++;
                }
            }
            for (int leaf = 0; leaf < seen.length; leaf++) {
                due.is("leaf " + leaf + " of tree " + tree + " was seen", seen[leaf] > 0, true);
            }
        }
    }

    private static void eachBlockIsThereOnce(Due due) {
        for (int tree = 0; tree < 2; tree++) {
            int[] seen = new int[Store.BLOCKS[tree]];
            for (Store.Bucket bucket : Store.openAll(() -> Run.started(31, KEY), KEY, tree)) {
                for (int s = 0; s < bucket.count(); s++) {
                    seen[bucket.block(s)]++;
                }
            }
            for (int n = 0; n < seen.length; n++) {
                due.is("times that block " + n + " is in tree " + tree, seen[n], 1);
            }
        }
    }

    /** One access from each of many seeds, until its path has gone to every leaf. */
    private static void pathsGoToTheirLeaves(Due due) {
        boolean[][] seen = {new boolean[4], new boolean[32]};
        for (int seed = 1; seed <= 400; seed++) {
            VeiledFiles x = Run.idled(Run.started(seed * 7919, KEY), 1);
            for (int tree = 0; tree < 2; tree++) {
                int leaf = x.trace(0, tree);
                seen[tree][leaf] = true;
                for (int b = 0; b < Store.BUCKETS[tree]; b++) {
                    due.is("counter(" + tree + ", " + b + ") after leaf " + leaf,
                            x.counter(tree, b), Store.isOnPath(tree, leaf, b) ? 2 : 1);
                }
            }
        }
        for (int leaf = 0; leaf < 32; leaf++) {
            due.is("leaf " + leaf + " of tree 1 was seen", seen[1][leaf], true);
            due.is("leaf " + leaf % 4 + " of tree 0 was seen", seen[0][leaf % 4], true);
        }
    }

    private static void blocksLieOnTheirPaths(Due due) {
        for (int times = 0; times < 200; times += 40) {
            Run run = idledRun(5, times);
            for (int tree = 0; tree < 2; tree++) {
                for (Store.Bucket bucket : Store.openAll(run, KEY, tree)) {
                    for (int s = 0; s < bucket.count(); s++) {
                        due.is("block " + bucket.block(s) + " lies on its path, tree " + tree,
                                Store.isOnPath(tree, bucket.leaf(s), bucket.number()), true);
                    }
                }
            }
        }
    }

    private static Run idledRun(int seed, int times) {
        return () -> Run.idled(Run.started(seed, KEY), times);
    }

    private static Run filledRun(int seed, int times) {
        return () -> Run.idled(Run.filled(Run.started(seed, KEY)), times);
    }

    /** Leaves of five zeroes and of five ones are the edges of an entry. */
    private static void theMapHasTheLeavesOfData(Due due) {
        boolean[] seen = new boolean[4];
        for (int times = 0; times < 480; times += 40) {
            Store.Place[] map = Store.places(Store.openAll(idledRun(9, times), KEY, 0), 0);
            Store.Place[] data = Store.places(Store.openAll(idledRun(9, times), KEY, 1), 1);
            for (int d = 0; d < 64; d++) {
                if (map[d / 8] == null || data[d] == null) {
                    continue;
                }
                int word = map[d / 8].word(d % 8 / 2);
                int leaf = data[d].leaf();
                due.is("entry of block " + d, d % 2 == 0 ? word & 0xffff : word >>> 16, leaf);
                if (leaf == 0 || leaf == 31) {
                    seen[d % 2 + (leaf == 0 ? 0 : 2)] = true;
                }
            }
        }
        due.is("leaves 0 and 31 in even and odd entries", Arrays.toString(seen),
                "[true, true, true, true]");
    }

    private static void bucketsAreEmptyOrFullOrBetween(Due due) {
        boolean[] seen = new boolean[5];
        for (int times = 0; times < 160; times += 40) {
            for (Store.Bucket bucket : Store.openAll(idledRun(31, times), KEY, 1)) {
                int count = bucket.count();
                seen[count] = true;
                for (int s = 0; s < Store.SLOTS; s++) {
                    due.is("slot " + s + " of bucket " + bucket.number() + " has a block",
                            bucket.block(s) >= 0, s < count);
                }
            }
        }
        due.is("buckets with 0 .. 4 blocks were seen", Arrays.toString(seen),
                "[true, true, true, true, true]");
    }

    /** Full blocks went through these slots, and must not shine through. */
    private static void slotsWithoutABlockAreZero(Due due) {
        Run run = filledRun(77, 200);
        int words = 0;
        for (Store.Bucket bucket : Store.openAll(run, KEY, 1)) {
            for (int i = 0; i < 24; i++) {
                if (bucket.block(i / 6) == -1) {
                    due.is("plain word " + i + " of bucket " + bucket.number(),
                            bucket.plain()[i], 0);
                } else if (i % 6 > 1 && bucket.plain()[i] != 0) {
                    words++;
                }
            }
        }
        due.is("words of files were seen on the store", words > 100, true);
    }

    /** With a wrong pad hardly a word would look like a block's number. */
    private static void padsWrapAround(Due due) {
        for (int key : ENDS) {
            for (int tree = 0; tree < 2; tree++) {
                VeiledFiles x = Run.idled(Run.started(3, key), 20);
                for (int b = 0; b < 7; b++) {
                    Store.Bucket bucket = Store.open(x, key, tree, b);
                    for (int s = 0; s < Store.SLOTS; s++) {
                        int block = bucket.block(s);
                        due.is("there is a block " + block + ", key " + key,
                                block >= -1 && block < Store.BLOCKS[tree], true);
                    }
                }
            }
        }
    }

    private static void tagsWrapAround(Due due) {
        for (int key : ENDS) {
            for (int tree = 0; tree < 2; tree++) {
                VeiledFiles x = Run.idled(Run.started(3, key), 20);
                for (int b = 0; b < 7; b++) {
                    int[] words = Store.words(x, tree, b);
                    due.is("sealed(" + tree + ", " + b + ", 24), key " + key, words[24],
                            Store.tag(key, tree, b, x.counter(tree, b), words));
                }
            }
        }
    }

    private static void nothingHappensWithAWrongMap(Due due) {
        for (int b : Store.path(0, leafOfTheNext(0))) {
            Run before = altered(0, b);
            Run after = thenWritten(before);
            String call = "bucket " + b + " of the map being altered, ";
            due.is(call + "state(3)", after.made().state(3), 1);
            sameTree(due, call, before, after, 0);
            sameTree(due, call, before, after, 1);
            due.is(call + "trace(0, 0)", after.made().trace(0, 0), leafOfTheNext(0));
            due.is(call + "trace(0, 1)", after.made().trace(0, 1), -1);
        }
    }

    private static void nothingHappensWithWrongData(Due due) {
        for (int b : Store.path(1, leafOfTheNext(1))) {
            Run before = altered(1, b);
            Run after = thenWritten(before);
            String call = "bucket " + b + " of data being altered, ";
            due.is(call + "state(3)", after.made().state(3), 1);
            sameTree(due, call, before, after, 1);
            sameTree(due, call, thenWritten(FIVE_WORDS), after, 0);
            due.is(call + "trace(0, 0)", after.made().trace(0, 0), leafOfTheNext(0));
            due.is(call + "trace(0, 1)", after.made().trace(0, 1), leafOfTheNext(1));
        }
    }

    private static void otherBucketsMayBeWrong(Due due) {
        for (int tree = 0; tree < 2; tree++) {
            for (int b = 0; b < Store.BUCKETS[tree]; b++) {
                if (Store.isOnPath(tree, leafOfTheNext(tree), b)) {
                    continue;
                }
                VeiledFiles x = altered(tree, b).made();
                int[] words = Store.words(x, tree, b);
                String call = "write(0, 5, 0), bucket " + b + " of tree " + tree + " being altered";
                due.nothingThrown(call, () -> x.write(0, 5, 0));
                due.is("state(3)", x.state(3), 0);
                due.is("words of the altered bucket that stay so",
                        Store.same(words, Store.words(x, tree, b)), 25);
            }
        }
    }

    private static int leafOfTheNext(int tree) {
        return thenWritten(FIVE_WORDS).made().trace(0, tree);
    }

    private static Run altered(int tree, int bucket) {
        return () -> {
            VeiledFiles x = FIVE_WORDS.made();
            x.alter(tree, bucket, 13, ~x.sealed(tree, bucket, 13));
            return x;
        };
    }

    private static Run thenWritten(Run run) {
        return () -> {
            VeiledFiles x = run.made();
            Due.thrownBy(() -> x.write(0, 5, 99));
            return x;
        };
    }

    private static void sameTree(Due due, String call, Run one, Run other, int tree) {
        List<int[]> before = Store.allWords(one, tree);
        List<int[]> after = Store.allWords(other, tree);
        for (int b = 0; b < Store.BUCKETS[tree]; b++) {
            due.is(call + "words of bucket " + b + " of tree " + tree + " as before",
                    Store.same(before.get(b), after.get(b)), 25);
        }
        due.is(call + "counters", Arrays.toString(Store.counters(other.made(), tree)),
                Arrays.toString(Store.counters(one.made(), tree)));
        due.is(call + "stash(" + tree + ")", other.made().stash(tree), one.made().stash(tree));
    }

    /** Seed 503 leaves map block 4 in the stash after 24 idle accesses. */
    private static void mapBlocksAreFoundInTheStash(Due due) {
        Run run = filledRun(503, 24);
        due.is("map block 4 is on the store",
                Store.places(Store.openAll(run, KEY, 0), 0)[4] != null, false);
        for (int block = 32; block < 40; block++) {
            readsAndWrites(due, run.made(), block);
        }
    }

    /** Seed 14 leaves data blocks 38 and 43 in the stash after 39 idle accesses. */
    private static void dataBlocksAreFoundInTheStash(Due due) {
        Run run = filledRun(14, 39);
        Store.Place[] places = Store.places(Store.openAll(run, KEY, 1), 1);
        for (int block : new int[] {38, 43}) {
            due.is("block " + block + " is on the store", places[block] != null, false);
            readsAndWrites(due, run.made(), block);
            VeiledFiles x = run.made();
            int i = block % 6 * 4 + 2;
            x.write(block / 6, i, 22);
            due.is("a word that was changed in the stash", x.read(block / 6, i), 22);
        }
    }

    private static void readsAndWrites(Due due, VeiledFiles x, int block) {
        int file = block / 6;
        int first = block % 6 * 4;
        due.is("read of block " + block, x.read(file, first + 1), Run.wordAt(4 * block + 1));
        x.write(file, first, 11);
        due.is("read of a changed word of block " + block, x.read(file, first), 11);
        due.is("read of the last word of block " + block,
                x.read(file, first + 3), Run.wordAt(4 * block + 3));
    }

    /** What lies over a bucket that it could be in found that one full of lesser numbers. */
    private static void blocksSinkAsFarAsTheyCan(Due due) {
        int risen = 0;
        for (int times = 1; times < 80; times += 3) {
            Run run = idledRun(1154186799, times);
            for (int tree = 0; tree < 2; tree++) {
                int leaf = run.made().trace(0, tree);
                risen += lookThrough(due, run, tree, Store.path(tree, leaf));
            }
        }
        due.is("blocks that found a bucket full were seen", risen > 10, true);
    }

    /** Only the buckets of one path, all of them open for the blocks in any of them. */
    private static int lookThrough(Due due, Run run, int tree, int[] path) {
        int risen = 0;
        Store.Bucket[] buckets = new Store.Bucket[path.length];
        for (int k = 0; k < path.length; k++) {
            buckets[k] = Store.open(run.made(), KEY, tree, path[k]);
        }
        for (int k = 0; k < path.length; k++) {
            for (int s = 0; s < buckets[k].count(); s++) {
                int block = buckets[k].block(s);
                due.is("block " + block + " behind the lesser ones",
                        s == 0 || buckets[k].block(s - 1) < block, true);
                for (int below = k + 1; below < path.length; below++) {
                    if (Store.isOnPath(tree, buckets[k].leaf(s), path[below])) {
                        risen++;
                        isFullOfLesser(due, buckets[below], block);
                    }
                }
            }
        }
        return risen;
    }

    private static void isFullOfLesser(Due due, Store.Bucket bucket, int block) {
        for (int s = 0; s < Store.SLOTS; s++) {
            int other = bucket.block(s);
            due.is("slot " + s + " of bucket " + bucket.number() + ", under block " + block
                    + ", has a lesser one: " + other, other >= 0 && other < block, true);
        }
    }

    /** What is left in the stash is so since the uppermost bucket too was full of lesser ones. */
    private static void whatFindsNoSlotStaysInTheStash(Due due) {
        for (int tree = 0; tree < 2; tree++) {
            Run run = runWithStash(tree);
            List<Store.Bucket> buckets = Store.openAll(run, KEY, tree);
            Store.Place[] places = Store.places(buckets, tree);
            int missing = 0;
            for (int n = 0; n < places.length; n++) {
                if (places[n] == null) {
                    missing++;
                    isFullOfLesser(due, buckets.get(0), n);
                }
            }
            due.is("blocks not on the store are in stash(" + tree + ")",
                    run.made().stash(tree), missing);
            due.is("blocks in the stash were seen", missing > 0, true);
        }
    }

    private static void blocksComeBackFromTheStash(Due due) {
        for (int tree = 0; tree < 2; tree++) {
            Run run = runWithStash(tree);
            VeiledFiles x = run.made();
            int times = x.state(0);
            for (int more = 0; more < 100 && x.stash(tree) > 0; more++) {
                x.idle();
            }
            due.is("stash(" + tree + ") after more accesses", x.stash(tree), 0);
            int more = x.state(0) - times;
            Run back = () -> Run.idled(run.made(), more);
            int found = 0;
            for (Store.Bucket bucket : Store.openAll(back, KEY, tree)) {
                found += bucket.count();
            }
            due.is("blocks of tree " + tree + " on the store", found, Store.BLOCKS[tree]);
        }
    }

    private static Run runWithStash(int tree) {
        for (int n = 1; n <= 300; n++) {
            int seed = n * 7919;
            VeiledFiles x = Run.started(seed, KEY);
            for (int times = 1; times <= 150; times++) {
                x.idle();
                if (x.stash(tree) > 0) {
                    return idledRun(seed, times);
                }
            }
        }
        throw new IllegalStateException("no run with a stash");
    }

    /** A bucket that was empty and stays so has other words and another counter. */
    private static void emptyBucketsAreSealedAnewToo(Due due) {
        int empty = 0;
        for (int times = 0; times < 60; times++) {
            VeiledFiles x = idledRun(4, times).made();
            VeiledFiles next = idledRun(4, times + 1).made();
            for (int b : Store.path(1, next.trace(0, 1))) {
                int counter = x.counter(1, b);
                due.is("counter(1, " + b + ")", next.counter(1, b), counter + 1);
                due.is("words of bucket " + b + " that stayed",
                        Store.same(Store.words(x, 1, b), Store.words(next, 1, b)), 0);
                boolean wasEmpty = Store.open(x, KEY, 1, b).count() == 0;
                empty += wasEmpty && Store.open(next, KEY, 1, b).count() == 0 ? 1 : 0;
            }
        }
        due.is("empty buckets were seen", empty > 0, true);
    }

    private static void seedZeroIsSeedOne(Due due) {
        Run zero = () -> Run.started(0, KEY);
        sameTree(due, "start(0, KEY), ", () -> Run.started(1, KEY), zero, 0);
        sameTree(due, "start(0, KEY), ", () -> Run.started(1, KEY), zero, 1);
        VeiledFiles x = Run.idled(zero.made(), 100);
        VeiledFiles one = idledRun(1, 100).made();
        due.is("trace(0, 0) after 100 accesses", x.trace(0, 0), one.trace(0, 0));
        due.is("trace(0, 1) after 100 accesses", x.trace(0, 1), one.trace(0, 1));
    }

    /** At the first seed blocks are crowded up to the third level from above. */
    private static void blocksStartAsLowAsTheyCan(Due due) {
        int[] risen = new int[2];
        for (int seed : new int[] {1154186799, 1, 2, 3, 4, 5, 6, 7}) {
            for (int tree = 0; tree < 2; tree++) {
                for (int leaf = 0; leaf < Store.LEAVES[tree]; leaf++) {
                    risen[tree] += lookThrough(due, () -> Run.started(seed, KEY), tree,
                            Store.path(tree, leaf));
                }
            }
        }
        due.is("blocks that found a bucket full were seen", risen[0] > 0 && risen[1] > 10, true);
    }

    private static void dataStartAsZeroes(Due due) {
        Run again = () -> {
            VeiledFiles x = Run.withWords(24);
            x.start(8, KEY);
            return x;
        };
        for (Store.Bucket bucket : Store.openAll(again, KEY, 1)) {
            for (int s = 0; s < Store.SLOTS; s++) {
                for (int i = 0; i < 4; i++) {
                    due.is("word " + i + " of block " + bucket.block(s), bucket.word(s, i), 0);
                }
            }
        }
    }

    private static void countersStartAtOne(Due due) {
        VeiledFiles x = Run.idled(new VeiledFiles(), 30);
        x.start(8, KEY);
        for (int tree = 0; tree < 2; tree++) {
            for (int counter : Store.counters(x, tree)) {
                due.is("a counter of tree " + tree, counter, 1);
            }
        }
    }

    private static void partsAreOfFour(Due due) {
        VeiledFiles x = Run.withWords(0);
        due.is("state(2), the file being empty", x.state(2), 64);
        for (int i = 0; i < 24; i++) {
            x.write(0, i, i);
            due.is("state(2) with " + (i + 1) + " words", x.state(2), 63 - i / 4);
            x.write(0, i, -i);
            due.is("state(2) after a change of word " + i, x.state(2), 63 - i / 4);
        }
    }

    private static void theLeastFreeBlockIsGot(Due due) {
        Run run = () -> {
            VeiledFiles x = Run.started(12, KEY);
            for (int f = 0; f < 5; f++) {
                x.create(f);
                x.write(f, 0, 100 + f);
            }
            x.remove(3);
            x.remove(1);
            for (int i = 1; i < 13; i++) {
                x.write(4, i, 200 + i);
            }
            return x;
        };
        Store.Place[] places = Store.places(Store.openAll(run, KEY, 1), 1);
        int[] firstWords = {100, 204, 102, 208, 104, 212};
        for (int d = 0; d < firstWords.length; d++) {
            due.is("block " + d + " is on the store", places[d] != null, true);
            if (places[d] != null) {
                due.is("word 0 of block " + d, places[d].word(0), firstWords[d]);
            }
        }
    }

    private static void gotBlocksAreCleared(Due due) {
        Run run = () -> {
            VeiledFiles x = Run.started(12, KEY);
            x.create(0);
            Run.writeWords(x, 0, 4);
            x.remove(0);
            x.create(0);
            x.write(0, 0, 5);
            return x;
        };
        Store.Place place = Store.places(Store.openAll(run, KEY, 1), 1)[0];
        due.is("block 0 is on the store", place != null, true);
        if (place != null) {
            for (int i = 0; i < 4; i++) {
                due.is("word " + i + " of block 0", place.word(i), i == 0 ? 5 : 0);
            }
        }
    }
}
