/** Promises 10 to 12: sealed, alter, counter. */
public final class StoreTest {
    private static final int TAG_FACTOR = 16777619;
    private static final int[] NO_TREES = {-1, 2, Integer.MIN_VALUE, Integer.MAX_VALUE};
    private static final int[][] NO_BUCKETS = {
        {-1, 7, 8, 62, Integer.MIN_VALUE, Integer.MAX_VALUE},
        {-1, 63, 64, Integer.MIN_VALUE, Integer.MAX_VALUE},
    };
    private static final int[] NO_WORDS = {-1, 25, 26, Integer.MIN_VALUE, Integer.MAX_VALUE};

    public static void main(String[] args) {
        Sentences sentences = new Sentences();
        sentences.of("Promise 10");
        sentences.holds("Sealed word i of a bucket", StoreTest::wordsAreSealed);
        sentences.holds("(0 .. 24), the first and the last", StoreTest::theEndsOfSealedAreThere);
        sentences.holds("IndexOutOfBoundsException: there is none such, no tree",
                StoreTest::noSuchTreeIsSealed);
        sentences.holds("IndexOutOfBoundsException: there is none such, no bucket",
                StoreTest::noSuchBucketIsSealed);
        sentences.holds("IndexOutOfBoundsException: there is none such, no word",
                StoreTest::noSuchWordIsSealed);
        altering(sentences);
        sentences.of("Promise 12");
        sentences.holds("A bucket's COUNTER", StoreTest::countersCount);
        sentences.holds("NONE if there is none such", StoreTest::noSuchBucketIsCounted);
        sentences.end();
    }

    private static void altering(Sentences sentences) {
        sentences.of("Promise 11");
        sentences.holds("That word becomes v: true", StoreTest::wordsAreAltered);
        sentences.holds("true, for each word of the first and last buckets",
                StoreTest::theEndsOfTheStoreAreAltered);
        sentences.holds("false if there is none such", StoreTest::noSuchWordIsAltered);
        sentences.holds("false if the TAG would be right: the same word",
                StoreTest::theSameWordIsNoAltering);
        sentences.holds("false if the TAG would be right: the word as it was",
                StoreTest::nothingIsAlteredBack);
        sentences.holds("false if the TAG would be right: a word that fits an altered TAG",
                StoreTest::aMatchingWordIsRefused);
        sentences.holds("false if the TAG would be right: a TAG that fits an altered word",
                StoreTest::aMatchingTagIsRefused);
        sentences.holds("false, changing nothing", StoreTest::aRefusedAlteringChangesNothing);
        sentences.holds("what is altered is never whole", StoreTest::everyAlteringIsNoticed);
        sentences.holds("alter, the device being DEAD", StoreTest::theDeadAreAltered);
    }

    private static void wordsAreSealed(Due due) {
        int key = 0x7654321;
        VeiledFiles x = Run.started(31, key);
        for (int tree = 0; tree < 2; tree++) {
            for (int b = 0; b < 7; b++) {
                Store.Bucket bucket = Store.open(x, key, tree, b);
                for (int s = 0; s < bucket.count(); s++) {
                    due.is("block " + bucket.block(s) + " is in bucket " + b,
                            Store.isOnPath(tree, bucket.leaf(s), b), true);
                }
            }
        }
    }

    private static void theEndsOfSealedAreThere(Due due) {
        VeiledFiles x = new VeiledFiles();
        for (int tree = 0; tree < 2; tree++) {
            int last = Store.BUCKETS[tree] - 1;
            for (int b : new int[] {0, last}) {
                int[] words = Store.words(x, tree, b);
                due.is("sealed(" + tree + ", " + b + ", 0)", words[0] ^ Store.pad(0, tree, b, 1, 0),
                        Store.open(x, 0, tree, b).block(0) + 1);
                due.is("sealed(" + tree + ", " + b + ", 24)", words[24],
                        Store.tag(0, tree, b, 1, words));
            }
        }
    }

    private static void noSuchTreeIsSealed(Due due) {
        VeiledFiles x = new VeiledFiles();
        for (int tree : NO_TREES) {
            due.outOfBounds("sealed(" + tree + ", 0, 0)", () -> x.sealed(tree, 0, 0));
        }
    }

    private static void noSuchBucketIsSealed(Due due) {
        VeiledFiles x = new VeiledFiles();
        for (int t = 0; t < 2; t++) {
            int tree = t;
            for (int bucket : NO_BUCKETS[t]) {
                due.outOfBounds("sealed(" + t + ", " + bucket + ", 0)",
                        () -> x.sealed(tree, bucket, 0));
                due.outOfBounds("sealed(" + t + ", " + bucket + ", 24)",
                        () -> x.sealed(tree, bucket, 24));
            }
        }
    }

    private static void noSuchWordIsSealed(Due due) {
        VeiledFiles x = new VeiledFiles();
        for (int t = 0; t < 2; t++) {
            int tree = t;
            int last = Store.BUCKETS[t] - 1;
            for (int i : NO_WORDS) {
                due.outOfBounds("sealed(" + t + ", 0, " + i + ")", () -> x.sealed(tree, 0, i));
                due.outOfBounds("sealed(" + t + ", 1, " + i + ")", () -> x.sealed(tree, 1, i));
                due.outOfBounds("sealed(" + t + ", " + last + ", " + i + ")",
                        () -> x.sealed(tree, last, i));
            }
        }
    }

    private static void wordsAreAltered(Due due) {
        VeiledFiles x = new VeiledFiles();
        int[] words = Store.words(x, 1, 9);
        due.is("alter(1, 9, 4, word + 1)", x.alter(1, 9, 4, words[4] + 1), true);
        due.is("alter(1, 9, 4, word + 2)", x.alter(1, 9, 4, words[4] + 2), true);
        words[4] += 2;
        due.is("words of bucket 9 as due", Store.same(Store.words(x, 1, 9), words), 25);
        due.is("alter to the altered word", x.alter(1, 9, 4, words[4]), true);
        due.is("counter(1, 9)", x.counter(1, 9), 1);
        due.is("state(0)", x.state(0), 0);
        due.is("state(3)", x.state(3), 0);
    }

    private static void theEndsOfTheStoreAreAltered(Due due) {
        for (int tree = 0; tree < 2; tree++) {
            for (int b : new int[] {0, Store.BUCKETS[tree] - 1}) {
                for (int i = 0; i < Store.WORDS; i++) {
                    VeiledFiles x = new VeiledFiles();
                    int[] words = Store.words(x, tree, b);
                    words[i] ^= 1 << i;
                    due.is("alter(" + tree + ", " + b + ", " + i + ")",
                            x.alter(tree, b, i, words[i]), true);
                    due.is("words of bucket " + b + " as due",
                            Store.same(Store.words(x, tree, b), words), 25);
                }
            }
        }
    }

    private static void noSuchWordIsAltered(Due due) {
        VeiledFiles x = new VeiledFiles();
        for (int tree : NO_TREES) {
            due.is("alter(" + tree + ", 0, 0, 1)", x.alter(tree, 0, 0, 1), false);
        }
        for (int tree = 0; tree < 2; tree++) {
            for (int bucket : NO_BUCKETS[tree]) {
                due.is("alter(" + tree + ", " + bucket + ", 0, 1)",
                        x.alter(tree, bucket, 0, 1), false);
            }
            for (int i : NO_WORDS) {
                due.is("alter(" + tree + ", 1, " + i + ", 1)", x.alter(tree, 1, i, 1), false);
            }
        }
        for (int k = 0; k < 100; k++) {
            due.nothingThrown("idle() after refused alterings", x::idle);
        }
    }

    private static void theSameWordIsNoAltering(Due due) {
        for (int tree = 0; tree < 2; tree++) {
            VeiledFiles x = Run.withWords(9);
            int[] whole = Store.words(x, tree, 0);
            for (int i = 0; i < Store.WORDS; i++) {
                due.is("alter(" + tree + ", 0, " + i + ") to the same",
                        x.alter(tree, 0, i, whole[i]), false);
            }
            due.nothingThrown("idle() on an unaltered store", x::idle);
        }
    }

    private static void nothingIsAlteredBack(Due due) {
        VeiledFiles x = Run.withWords(9);
        int[] whole = Store.words(x, 0, 0);
        due.is("alter(0, 0, 3)", x.alter(0, 0, 3, ~whole[3]), true);
        due.is("alter(0, 0, 3) back", x.alter(0, 0, 3, whole[3]), false);
        due.is("alter(0, 0, 8)", x.alter(0, 0, 8, ~whole[8]), true);
        due.is("alter(0, 0, 3) back, 8 being altered", x.alter(0, 0, 3, whole[3]), true);
        due.is("alter(0, 0, 8) back", x.alter(0, 0, 8, whole[8]), false);
        due.illegalState("idle()", x::idle);
    }

    /** After word 24 one word 23 alone fits the new tag. */
    private static void aMatchingWordIsRefused(Due due) {
        VeiledFiles x = new VeiledFiles();
        int inverse = inverseOf(TAG_FACTOR);
        int word = x.sealed(1, 0, 23);
        int tag = x.sealed(1, 0, 24);
        int matching = word ^ tag * inverse ^ (tag + 99) * inverse;
        due.is("alter(1, 0, 24)", x.alter(1, 0, 24, tag + 99), true);
        due.is("alter(1, 0, 23) to the matching word", x.alter(1, 0, 23, matching), false);
        due.is("sealed(1, 0, 23)", x.sealed(1, 0, 23), word);
        due.is("sealed(1, 0, 24)", x.sealed(1, 0, 24), tag + 99);
        due.is("alter(1, 0, 23) to another", x.alter(1, 0, 23, matching + 1), true);
        due.illegalState("idle()", x::idle);
    }

    private static int inverseOf(int odd) {
        int inverse = odd;
        for (int k = 0; k < 5; k++) {
            inverse *= 2 - odd * inverse;
        }
        return inverse;
    }

    private static void aMatchingTagIsRefused(Due due) {
        int key = 55;
        VeiledFiles x = Run.started(66, key);
        int[] words = Store.words(x, 1, 0);
        words[0] = 7;
        int tag = Store.tag(key, 1, 0, 1, words);
        due.is("alter(1, 0, 0, 7)", x.alter(1, 0, 0, 7), true);
        due.is("alter(1, 0, 24) to the matching tag", x.alter(1, 0, 24, tag), false);
        due.is("sealed(1, 0, 24)", x.sealed(1, 0, 24), words[24]);
        due.is("alter(1, 0, 24) to another", x.alter(1, 0, 24, tag + 1), true);
        due.illegalState("idle()", x::idle);
    }

    /** The word that was altered first is kept as it is. */
    private static void aRefusedAlteringChangesNothing(Due due) {
        VeiledFiles x = Run.withWords(9);
        int[] words = Store.words(x, 1, 0);
        int whole = words[3];
        words[3] = ~whole;
        x.alter(1, 0, 3, ~whole);
        due.is("alter(1, 0, 3) back", x.alter(1, 0, 3, whole), false);
        due.is("alter(1, 0, -1)", x.alter(1, 0, -1, 1), false);
        due.is("alter(1, 0, 25)", x.alter(1, 0, 25, 1), false);
        due.is("words of the bucket as altered", Store.same(Store.words(x, 1, 0), words), 25);
        int[] next = Store.words(Run.withWords(9), 1, 1);
        due.is("words of the next bucket", Store.same(Store.words(x, 1, 1), next), 25);
        due.is("state(0)", x.state(0), 9);
        due.is("state(3)", x.state(3), 0);
        due.is("counter(1, 0)", x.counter(1, 0), 10);
    }

    private static void everyAlteringIsNoticed(Due due) {
        for (int tree = 0; tree < 2; tree++) {
            for (int i = 0; i < Store.WORDS; i++) {
                VeiledFiles x = Run.withWords(0);
                due.is("alter(" + tree + ", 0, " + i + ")",
                        x.alter(tree, 0, i, x.sealed(tree, 0, i) ^ 1 << i), true);
                due.illegalState("write(0, 0, 1)", () -> x.write(0, 0, 1));
            }
        }
    }

    private static void theDeadAreAltered(Due due) {
        VeiledFiles x = Run.dead(Run.withWords(9), 1);
        due.is("alter(1, 0, 3, 17) of a dead device", x.alter(1, 0, 3, 17), true);
        due.is("sealed(1, 0, 3) of a dead device", x.sealed(1, 0, 3), 17);
        int whole = x.sealed(0, 0, 5);
        due.is("alter(0, 0, 5) to the same", x.alter(0, 0, 5, whole), false);
        due.is("alter(0, 0, 5)", x.alter(0, 0, 5, whole + 1), true);
        due.is("state(3)", x.state(3), 1);
    }

    private static void countersCount(Due due) {
        VeiledFiles x = new VeiledFiles();
        for (int k = 1; k <= 100; k++) {
            x.idle();
            due.is("counter(0, 0)", x.counter(0, 0), 1 + k);
            due.is("counter(1, 0)", x.counter(1, 0), 1 + k);
        }
        int[] map = Store.counters(x, 0);
        due.is("counters of the map's lowest buckets", map[3] + map[4] + map[5] + map[6], 104);
        int lowest = 0;
        for (int b = 31; b < 63; b++) {
            lowest += x.counter(1, b);
        }
        due.is("counters of the data's lowest buckets", lowest, 132);
    }

    private static void noSuchBucketIsCounted(Due due) {
        VeiledFiles x = new VeiledFiles();
        for (int tree : NO_TREES) {
            due.is("counter(" + tree + ", 0)", x.counter(tree, 0), -1);
        }
        for (int tree = 0; tree < 2; tree++) {
            for (int bucket : NO_BUCKETS[tree]) {
                due.is("counter(" + tree + ", " + bucket + ")", x.counter(tree, bucket), -1);
            }
            due.is("counter of the last bucket", x.counter(tree, Store.BUCKETS[tree] - 1), 1);
        }
    }
}
