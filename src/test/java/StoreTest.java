/** Promises 10 to 12: sealed, alter, counter. */
public final class StoreTest {
    private static final int TAG_FACTOR = 16777619;
    private static final int[] NO_TREES = {-1, 2, Integer.MIN_VALUE, Integer.MAX_VALUE};
    private static final int[][] NO_BUCKETS = {
        {-1, 7, 8, 62, Integer.MIN_VALUE, Integer.MAX_VALUE},
        {-1, 63, 64, Integer.MIN_VALUE, Integer.MAX_VALUE},
    };
    private static final int[] NO_WORDS = {-1, 25, 26, Integer.MIN_VALUE, Integer.MAX_VALUE};
    private static final Due due = new Due();

    public static void main(String[] args) {
        whatIsSealedCanBeOpened();
        aPutBackBucketIsSealedAnew();
        wrongPlacesOfSealed();
        wordsAreAltered();
        nothingIsAlteredToBeWhole();
        aMatchingTagIsRefused();
        wrongPlacesOfAlter();
        alteringIsNoticedOnEveryWord();
        countersCount();
        wrongPlacesOfCounter();
        due.end();
    }

    /** The blocks in the buckets are all those that there are, on the paths of their leaves. */
    private static void whatIsSealedCanBeOpened() {
        int key = 0x1234567;
        int found = 0;
        for (int b = 0; b < 63; b++) {
            VeiledFiles x = new VeiledFiles();
            x.start(31, key);
            int[] plain = opened(x, key, 1, b);
            for (int s = 0; s < 4; s++) {
                int block = plain[6 * s];
                found += block == 0 ? 0 : 1;
                due.is("a block's number in bucket " + b, block >= 0 && block <= 64, true);
                due.is("a leaf in bucket " + b,
                        block == 0 ? plain[6 * s + 1] == 0 : goesThrough(plain[6 * s + 1], b), true);
                for (int w = 2; w < 6; w++) {
                    due.is("a word in bucket " + b, plain[6 * s + w], 0);
                }
            }
        }
        due.is("blocks in all buckets", found, 64);
    }

    private static boolean goesThrough(int leaf, int bucket) {
        int b = 31 + leaf;
        while (b > bucket) {
            b = (b - 1) / 2;
        }
        return b == bucket;
    }

    private static int[] opened(VeiledFiles x, int key, int tree, int bucket) {
        int counter = x.counter(tree, bucket);
        int[] plain = new int[24];
        for (int i = 0; i < 24; i++) {
            plain[i] = x.sealed(tree, bucket, i) ^ pad(key, 64 * tree + bucket + 1, counter, i + 1);
        }
        return plain;
    }

    private static int pad(int key, int place, int counter, int word) {
        int h = key ^ place * -1640531535 ^ counter * -2048144777 ^ word * -1028477379;
        h ^= h >>> 15;
        h *= 739982445;
        h ^= h >>> 12;
        h *= 695872825;
        return h ^ h >>> 15;
    }

    private static void aPutBackBucketIsSealedAnew() {
        VeiledFiles x = new VeiledFiles();
        x.create(0);
        for (int k = 0; k < 4; k++) {
            int[] before = words(x, 1, 0);
            int[] mapBefore = words(x, 0, 0);
            x.write(0, 0, 5);
            due.is("words of the data's bucket 0 that stayed", same(before, words(x, 1, 0)), 0);
            due.is("words of the map's bucket 0 that stayed", same(mapBefore, words(x, 0, 0)), 0);
        }
    }

    private static int[] words(VeiledFiles x, int tree, int bucket) {
        int[] words = new int[25];
        for (int i = 0; i < 25; i++) {
            words[i] = x.sealed(tree, bucket, i);
        }
        return words;
    }

    private static int same(int[] one, int[] other) {
        int count = 0;
        for (int i = 0; i < 25; i++) {
            count += one[i] == other[i] ? 1 : 0;
        }
        return count;
    }

    private static void wrongPlacesOfSealed() {
        VeiledFiles x = new VeiledFiles();
        for (int tree : NO_TREES) {
            due.outOfBounds("sealed(" + tree + ", 0, 0)", () -> x.sealed(tree, 0, 0));
        }
        for (int t = 0; t < 2; t++) {
            int tree = t;
            for (int bucket : NO_BUCKETS[t]) {
                due.outOfBounds("sealed(" + t + ", " + bucket + ", 0)",
                        () -> x.sealed(tree, bucket, 0));
            }
            for (int i : NO_WORDS) {
                due.outOfBounds("sealed(" + t + ", 1, " + i + ")", () -> x.sealed(tree, 1, i));
            }
        }
        due.nothingThrown("sealed(0, 6, 24)", () -> x.sealed(0, 6, 24));
        due.nothingThrown("sealed(1, 62, 24)", () -> x.sealed(1, 62, 24));
    }

    private static void wordsAreAltered() {
        VeiledFiles x = new VeiledFiles();
        int[] before = words(x, 1, 9);
        due.is("alter(1, 9, 4, 1)", x.alter(1, 9, 4, before[4] + 1), true);
        due.is("alter(1, 9, 4, 2)", x.alter(1, 9, 4, before[4] + 2), true);
        before[4] += 2;
        due.is("words of bucket 9 as due", same(words(x, 1, 9), before), 25);
        due.is("counter(1, 9)", x.counter(1, 9), 1);
        due.is("state(0)", x.state(0), 0);
        due.is("state(3)", x.state(3), 0);
        due.is("alter to the altered word", x.alter(1, 9, 4, before[4]), true);
    }

    private static void nothingIsAlteredToBeWhole() {
        VeiledFiles x = new VeiledFiles();
        int[] whole = words(x, 0, 0);
        for (int i = 0; i < 25; i++) {
            due.is("alter(0, 0, " + i + ") to the same", x.alter(0, 0, i, whole[i]), false);
        }
        due.nothingThrown("idle() on an unaltered store", x::idle);
        whole = words(x, 0, 0);
        due.is("alter(0, 0, 3)", x.alter(0, 0, 3, ~whole[3]), true);
        due.is("alter(0, 0, 3) back", x.alter(0, 0, 3, whole[3]), false);
        due.is("sealed(0, 0, 3)", x.sealed(0, 0, 3), ~whole[3]);
        due.is("alter(0, 0, 8)", x.alter(0, 0, 8, ~whole[8]), true);
        due.is("alter(0, 0, 3) back, 8 being altered", x.alter(0, 0, 3, whole[3]), true);
        due.is("alter(0, 0, 8) back", x.alter(0, 0, 8, whole[8]), false);
        due.illegalState("idle()", x::idle);
    }

    /** After word 24 one word 23 alone fits the new tag: to have that one is refused. */
    private static void aMatchingTagIsRefused() {
        VeiledFiles x = new VeiledFiles();
        int inverse = inverseOf(TAG_FACTOR);
        int word = x.sealed(1, 0, 23);
        int tag = x.sealed(1, 0, 24);
        int matching = word ^ tag * inverse ^ (tag + 99) * inverse;
        due.is("alter(1, 0, 24)", x.alter(1, 0, 24, tag + 99), true);
        due.is("alter(1, 0, 23) to the matching word", x.alter(1, 0, 23, matching), false);
        due.is("sealed(1, 0, 23)", x.sealed(1, 0, 23), word);
        due.is("sealed(1, 0, 24)", x.sealed(1, 0, 24), tag + 99);
        due.is("alter(1, 0, 23) to another", x.alter(1, 0, 23, matching + 1), true);
        due.illegalState("idle()", x::idle);
    }

    private static int inverseOf(int odd) {
        int inverse = odd;
        for (int k = 0; k < 5; k++) {
            inverse *= 2 - odd * inverse;
        }
        return inverse;
    }

    private static void wrongPlacesOfAlter() {
        VeiledFiles x = new VeiledFiles();
        for (int tree : NO_TREES) {
            due.is("alter(" + tree + ", 0, 0, 1)", x.alter(tree, 0, 0, 1), false);
        }
        for (int tree = 0; tree < 2; tree++) {
            for (int bucket : NO_BUCKETS[tree]) {
                due.is("alter(" + tree + ", " + bucket + ", 0, 1)",
                        x.alter(tree, bucket, 0, 1), false);
            }
            for (int i : NO_WORDS) {
                due.is("alter(" + tree + ", 0, " + i + ", 1)", x.alter(tree, 0, i, 1), false);
            }
        }
        for (int k = 0; k < 100; k++) {
            due.nothingThrown("idle() after refused alterings", x::idle);
        }
        due.is("alter(0, 6, 24, 1)", x.alter(0, 6, 24, 1), true);
        due.is("alter(1, 62, 24, 1)", x.alter(1, 62, 24, 1), true);
    }

    private static void alteringIsNoticedOnEveryWord() {
        for (int tree = 0; tree < 2; tree++) {
            for (int i = 0; i < 25; i++) {
                VeiledFiles x = new VeiledFiles();
                x.create(0);
                int bit = 1 << i;
                due.is("alter(" + tree + ", 0, " + i + ")",
                        x.alter(tree, 0, i, x.sealed(tree, 0, i) ^ bit), true);
                due.illegalState("write(0, 0, 1)", () -> x.write(0, 0, 1));
                due.is("alter of a dead device", x.alter(tree, 0, i, bit), true);
                due.is("sealed of a dead device", x.sealed(tree, 0, i), bit);
            }
        }
    }

    private static void countersCount() {
        VeiledFiles x = new VeiledFiles();
        for (int b = 0; b < 7; b++) {
            due.is("counter(0, " + b + ")", x.counter(0, b), 1);
        }
        for (int k = 1; k <= 100; k++) {
            x.idle();
            due.is("counter(0, 0)", x.counter(0, 0), 1 + k);
            due.is("counter(1, 0)", x.counter(1, 0), 1 + k);
        }
        due.is("counters of the map's lowest buckets",
                x.counter(0, 3) + x.counter(0, 4) + x.counter(0, 5) + x.counter(0, 6), 104);
        int lowest = 0;
        for (int b = 31; b < 63; b++) {
            lowest += x.counter(1, b);
        }
        due.is("counters of the data's lowest buckets", lowest, 132);
    }

    private static void wrongPlacesOfCounter() {
        VeiledFiles x = new VeiledFiles();
        for (int tree : NO_TREES) {
            due.is("counter(" + tree + ", 0)", x.counter(tree, 0), -1);
        }
        for (int tree = 0; tree < 2; tree++) {
            for (int bucket : NO_BUCKETS[tree]) {
                due.is("counter(" + tree + ", " + bucket + ")", x.counter(tree, bucket), -1);
            }
        }
        due.is("counter(0, 6)", x.counter(0, 6), 1);
        due.is("counter(1, 62)", x.counter(1, 62), 1);
    }
}
