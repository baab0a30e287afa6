import java.util.ArrayList;
import java.util.HashMap;
import java.util.LinkedHashMap;
import java.util.List;
import java.util.Map;
import java.util.TreeMap;

/**
 * The document written down a second time, in another way: blocks lie about as plain objects, and
 * a bucket is sealed only when somebody asks for its words.
 */
final class Model {
    static final class Block {
        final int number;
        int leaf;
        final int[] words = new int[4];

        Block(int number) {
            this.number = number;
        }
    }

    static final class Bucket {
        final List<Block> slots = new ArrayList<>();
        int counter = 1;
        /** The words that stand in the store in place of the sealed ones. */
        final Map<Integer, Integer> altered = new HashMap<>();
    }

    static final class Wood {
        final int number;
        final List<List<Integer>> paths = new ArrayList<>();
        final List<Bucket> buckets = new ArrayList<>();
        final List<Block> blocks = new ArrayList<>();
        final TreeMap<Integer, Block> stash = new TreeMap<>();

        Wood(int number, int levels, int blockCount) {
            this.number = number;
            growPaths(0, levels, new ArrayList<>());
            for (int b = 0; b < 2 * paths.size() - 1; b++) {
                buckets.add(new Bucket());
            }
            for (int n = 0; n < blockCount; n++) {
                blocks.add(new Block(n));
            }
        }

        private void growPaths(int bucket, int levelsLeft, List<Integer> above) {
            List<Integer> path = new ArrayList<>(above);
            path.add(0, bucket);
            if (levelsLeft == 1) {
                paths.add(path);
                return;
            }
            growPaths(2 * bucket + 1, levelsLeft - 1, path);
            growPaths(2 * bucket + 2, levelsLeft - 1, path);
        }
    }

    static final class Entry {
        final long name;
        final List<Integer> blocks = new ArrayList<>();
        int size;

        Entry(long name) {
            this.name = name;
        }
    }

    private int g;
    private int key;
    private Wood map;
    private Wood data;
    private Map<Integer, Entry> files;
    private List<int[]> traces;
    private boolean dead;

    Model() {
        start(1, 0);
    }

    void start(int seed, int newKey) {
        g = seed == 0 ? 1 : seed;
        key = newKey;
        map = new Wood(0, 3, 8);
        data = new Wood(1, 6, 64);
        files = new LinkedHashMap<>();
        traces = new ArrayList<>();
        dead = false;
        for (Block block : map.blocks) {
            block.leaf = draw(4);
        }
        for (Block block : data.blocks) {
            block.leaf = draw(32);
            enterLeaf(block.number, block.leaf);
        }
        map.blocks.forEach(block -> settle(map, block));
        data.blocks.forEach(block -> settle(data, block));
    }

    int create(long name) {
        if (find(name) != -1) {
            return -1;
        }
        for (int f = 0; f < 8; f++) {
            if (!files.containsKey(f)) {
                files.put(f, new Entry(name));
                return f;
            }
        }
        return -1;
    }

    int find(long name) {
        for (Map.Entry<Integer, Entry> file : files.entrySet()) {
            if (file.getValue().name == name) {
                return file.getKey();
            }
        }
        return -1;
    }

    boolean remove(int file) {
        return files.remove(file) != null;
    }

    int size(int file) {
        return files.containsKey(file) ? files.get(file).size : -1;
    }

    void write(int file, int i, int v) {
        Entry entry = files.get(file);
        if (entry == null || i < 0 || i > entry.size || i > 23) {
            throw new IndexOutOfBoundsException();
        }
        boolean newPart = i / 4 == entry.blocks.size();
        int number = newPart ? leastFree() : entry.blocks.get(i / 4);
        int leaf = open(number);
        Block block = data.blocks.get(number);
        for (int w = 0; newPart && w < 4; w++) {
            block.words[w] = 0;
        }
        block.words[i % 4] = v;
        putBack(data, leaf);
        if (newPart) {
            entry.blocks.add(number);
        }
        entry.size = Math.max(entry.size, i + 1);
    }

    int read(int file, int i) {
        Entry entry = files.get(file);
        if (entry == null || i < 0 || i >= entry.size) {
            throw new IndexOutOfBoundsException();
        }
        int number = entry.blocks.get(i / 4);
        int leaf = open(number);
        putBack(data, leaf);
        return data.blocks.get(number).words[i % 4];
    }

    void idle() {
        putBack(data, open(draw(64)));
    }

    int sealed(int tree, int bucket, int i) {
        Wood wood = wood(tree);
        if (wood == null || bucket < 0 || bucket >= wood.buckets.size() || i < 0 || i > 24) {
            throw new IndexOutOfBoundsException();
        }
        return stored(wood, bucket)[i];
    }

    boolean alter(int tree, int bucket, int i, int v) {
        Wood wood = wood(tree);
        if (wood == null || bucket < 0 || bucket >= wood.buckets.size() || i < 0 || i > 24) {
            return false;
        }
        int[] words = stored(wood, bucket);
        words[i] = v;
        if (tag(wood, bucket, words) == words[24]) {
            return false;
        }
        wood.buckets.get(bucket).altered.put(i, v);
        return true;
    }

    int counter(int tree, int bucket) {
        Wood wood = wood(tree);
        if (wood == null || bucket < 0 || bucket >= wood.buckets.size()) {
            return -1;
        }
        return wood.buckets.get(bucket).counter;
    }

    int trace(int k, int what) {
        if (k < 0 || k > 63 || k >= traces.size() || what < 0 || what > 1) {
            return -1;
        }
        return traces.get(traces.size() - 1 - k)[what];
    }

    int stash(int tree) {
        Wood wood = wood(tree);
        return wood == null ? -1 : wood.stash.size();
    }

    int state(int what) {
        if (what == 0) {
            return traces.size();
        }
        if (what == 1) {
            return files.size();
        }
        if (what == 2) {
            return 64 - files.values().stream().mapToInt(entry -> entry.blocks.size()).sum();
        }
        return what == 3 ? (dead ? 1 : 0) : -1;
    }

    private Wood wood(int tree) {
        return tree == 0 ? map : tree == 1 ? data : null;
    }

    /** A number below a power of two. */
    private int draw(int below) {
        g = g ^ (g << 13);
        g = g ^ (g >>> 17);
        g = g ^ (g << 5);
        return (int) (Integer.toUnsignedLong(g) * below / (1L << 32));
    }

    private int leastFree() {
        int number = 0;
        while (isInUse(number)) {
            number++;
        }
        return number;
    }

    private boolean isInUse(int number) {
        return files.values().stream().anyMatch(entry -> entry.blocks.contains(number));
    }

    private static void settle(Wood wood, Block block) {
        for (int bucket : wood.paths.get(block.leaf)) {
            if (wood.buckets.get(bucket).slots.size() < 4) {
                wood.buckets.get(bucket).slots.add(block);
                return;
            }
        }
        wood.stash.put(block.number, block);
    }

    private int open(int number) {
        if (dead) {
            throw new IllegalStateException();
        }
        Block mapBlock = map.blocks.get(number / 8);
        int mapLeaf = mapBlock.leaf;
        int[] trace = {mapLeaf, -1};
        traces.add(trace);
        int nextMapLeaf = draw(4);
        take(map, mapLeaf);
        mapBlock.leaf = nextMapLeaf;
        int leaf = data.blocks.get(number).leaf;
        int nextLeaf = draw(32);
        enterLeaf(number, nextLeaf);
        putBack(map, mapLeaf);
        trace[1] = leaf;
        take(data, leaf);
        data.blocks.get(number).leaf = nextLeaf;
        return leaf;
    }

    /** Bits 0 .. 4 of a word for an even entry, bits 16 .. 20 for an odd one. */
    private void enterLeaf(int number, int leaf) {
        int[] words = map.blocks.get(number / 8).words;
        int w = number % 8 / 2;
        int even = words[w] & 0xffff;
        int odd = words[w] >>> 16;
        words[w] = number % 2 == 0 ? odd << 16 | leaf : leaf << 16 | even;
    }

    private void take(Wood wood, int leaf) {
        for (int bucket : wood.paths.get(leaf)) {
            if (!wood.buckets.get(bucket).altered.isEmpty()) {
                dead = true;
                throw new IllegalStateException();
            }
        }
        for (int bucket : wood.paths.get(leaf)) {
            for (Block block : wood.buckets.get(bucket).slots) {
                wood.stash.put(block.number, block);
            }
            wood.buckets.get(bucket).slots.clear();
        }
    }

    private static void putBack(Wood wood, int leaf) {
        for (int number : wood.paths.get(leaf)) {
            Bucket bucket = wood.buckets.get(number);
            for (Block block : new ArrayList<>(wood.stash.values())) {
                if (bucket.slots.size() < 4 && wood.paths.get(block.leaf).contains(number)) {
                    bucket.slots.add(wood.stash.remove(block.number));
                }
            }
            bucket.counter++;
        }
    }

    private int[] stored(Wood wood, int number) {
        Bucket bucket = wood.buckets.get(number);
        int[] words = new int[25];
        for (int s = 0; s < bucket.slots.size(); s++) {
            Block block = bucket.slots.get(s);
            words[6 * s] = block.number + 1;
            words[6 * s + 1] = block.leaf;
            System.arraycopy(block.words, 0, words, 6 * s + 2, 4);
        }
        for (int i = 0; i < 24; i++) {
            words[i] ^= pad(wood, number, i);
        }
        words[24] = tag(wood, number, words);
        bucket.altered.forEach((i, v) -> words[i] = v);
        return words;
    }

    private int tag(Wood wood, int bucket, int[] words) {
        int t = pad(wood, bucket, 24);
        for (int i = 0; i < 24; i++) {
            t = (t ^ words[i]) * 16777619;
        }
        return t;
    }

    private int pad(Wood wood, int bucket, int i) {
        int ofPlace = (64 * wood.number + bucket + 1) * -1640531535;
        int ofCounter = wood.buckets.get(bucket).counter * -2048144777;
        int ofWord = (i + 1) * -1028477379;
        int h = key ^ ofPlace ^ ofCounter ^ ofWord;
        h = (h ^ (h >>> 15)) * 739982445;
        h = (h ^ (h >>> 12)) * 695872825;
        return h ^ (h >>> 15);
    }
}
