import java.util.ArrayList;
import java.util.List;

/** The store as it lies open to one who has the key, and the ways through its trees. */
final class Store {
    static final int[] BUCKETS = {7, 63};
    static final int[] LEAVES = {4, 32};
    static final int[] BLOCKS = {8, 64};
    static final int SLOTS = 4;
    static final int WORDS = 25;

    private static final long INT = 0xffffffffL;

    /** A bucket's plain words. */
    record Bucket(int number, int[] plain) {
        /** NONE for a slot without a block. */
        int block(int slot) {
            return plain[6 * slot] - 1;
        }

        int leaf(int slot) {
            return plain[6 * slot + 1];
        }

        int word(int slot, int i) {
            return plain[6 * slot + 2 + i];
        }

        int count() {
            int count = 0;
            for (int s = 0; s < SLOTS; s++) {
                count += plain[6 * s] == 0 ? 0 : 1;
            }
            return count;
        }
    }

    /** Where a block was found. */
    record Place(Bucket bucket, int slot) {
        int leaf() {
            return bucket.leaf(slot);
        }

        int word(int i) {
            return bucket.word(slot, i);
        }
    }

    private Store() {
    }

    /** From bucket 0 down: the bits of the leaf, the highest first, tell left from right. */
    static int[] path(int tree, int leaf) {
        int levels = tree == 0 ? 3 : 6;
        int[] path = new int[levels];
        for (int k = 1; k < levels; k++) {
            int bit = leaf >> levels - 1 - k & 1;
            path[k] = 2 * path[k - 1] + 1 + bit;
        }
        return path;
    }

    static boolean isOnPath(int tree, int leaf, int bucket) {
        for (int b : path(tree, leaf)) {
            if (b == bucket) {
                return true;
            }
        }
        return false;
    }

    static int[] words(VeiledFiles x, int tree, int bucket) {
        int[] words = new int[WORDS];
        for (int i = 0; i < WORDS; i++) {
            words[i] = x.sealed(tree, bucket, i);
        }
        return words;
    }

    static int same(int[] one, int[] other) {
        int count = 0;
        for (int i = 0; i < WORDS; i++) {
            count += one[i] == other[i] ? 1 : 0;
        }
        return count;
    }

    /** The sealed words of all buckets of a tree. */
    static List<int[]> allWords(Run run, int tree) {
        List<int[]> all = new ArrayList<>();
        for (int b = 0; b < BUCKETS[tree]; b++) {
            all.add(words(run.made(), tree, b));
        }
        return all;
    }

    static int[] counters(VeiledFiles x, int tree) {
        int[] counters = new int[BUCKETS[tree]];
        for (int b = 0; b < counters.length; b++) {
            counters[b] = x.counter(tree, b);
        }
        return counters;
    }

    static Bucket open(VeiledFiles x, int key, int tree, int bucket) {
        int[] words = words(x, tree, bucket);
        int counter = x.counter(tree, bucket);
        int[] plain = new int[WORDS - 1];
        for (int i = 0; i < plain.length; i++) {
            plain[i] = words[i] ^ pad(key, tree, bucket, counter, i);
        }
        return new Bucket(bucket, plain);
    }

    static List<Bucket> openAll(Run run, int key, int tree) {
        List<Bucket> all = new ArrayList<>();
        for (int b = 0; b < BUCKETS[tree]; b++) {
            all.add(open(run.made(), key, tree, b));
        }
        return all;
    }

    /** The place of each block, null for one that is not on the store. */
    static Place[] places(List<Bucket> buckets, int tree) {
        Place[] places = new Place[BLOCKS[tree]];
        for (Bucket bucket : buckets) {
            for (int s = 0; s < SLOTS; s++) {
                if (bucket.block(s) >= 0 && bucket.block(s) < places.length) {
                    places[bucket.block(s)] = new Place(bucket, s);
                }
            }
        }
        return places;
    }

    /** In longs, so that it is another way to the same than the program's. */
    static int pad(int key, int tree, int bucket, int counter, int i) {
        long h = key & INT
                ^ product(64 * tree + bucket + 1, -1640531535)
                ^ product(counter, -2048144777)
                ^ product(i + 1, -1028477379);
        h = product(h ^ h >> 15, 739982445);
        h = product(h ^ h >> 12, 695872825);
        return (int) (h ^ h >> 15);
    }

    static int tag(int key, int tree, int bucket, int counter, int[] words) {
        long t = pad(key, tree, bucket, counter, WORDS - 1) & INT;
        for (int i = 0; i < WORDS - 1; i++) {
            t = product(t ^ words[i] & INT, 16777619);
        }
        return (int) t;
    }

    private static long product(long one, long other) {
        return one * other & INT;
    }
}
