import java.util.Arrays;

/**
 * Files on a store that learns nothing of what is read and written: each access goes over whole
 * paths of two trees, moves what it touched to a drawn place, and seals all buckets anew; buckets
 * that were altered are noticed.
 */
public final class VeiledFiles {
    public static final int NONE = -1;

    private static final int MAP_LEAF_BITS = 2;
    private static final int MAP_BLOCKS = 8;
    private static final int DATA_LEAF_BITS = 5;
    private static final int DATA_BLOCK_BITS = 6;
    private static final int DATA_BLOCKS = 64;
    private static final int BLOCK_WORDS = 4;
    private static final int ENTRIES = 8;
    private static final int ENTRY_MASK = 31;

    private final Dice dice = new Dice();
    private final Tree map = new Tree(0, MAP_LEAF_BITS, MAP_BLOCKS);
    private final Tree data = new Tree(1, DATA_LEAF_BITS, DATA_BLOCKS);
    private final int[] mapLeaves = new int[MAP_BLOCKS];
    private final Book book = new Book();
    private final Trail trail = new Trail();
    private boolean dead;

    public VeiledFiles() {
        beginAnew(1, 0);
    }

    public void start(int seed, int key) {
        beginAnew(seed, key);
    }

    public int create(long name) {
        return book.add(name);
    }

    public int find(long name) {
        return book.numberOf(name);
    }

    public boolean remove(int file) {
        return book.drop(file);
    }

    public int size(int file) {
        return book.lengthOf(file);
    }

    public void write(int file, int i, int v)
            throws IndexOutOfBoundsException, IllegalStateException {
        int block = book.blockToWrite(file, i);
        if (block == NONE) {
            throw new IndexOutOfBoundsException();
        }
        int leaf = openPathOf(block);
        if (leaf == NONE) {
            throw new IllegalStateException();
        }
        if (book.opensPart(file, i)) {
            data.clearWords(block);
        }
        data.setWord(block, i % BLOCK_WORDS, v);
        data.putBack(leaf);
        book.noteWritten(file, i, block);
    }

    public int read(int file, int i) throws IndexOutOfBoundsException, IllegalStateException {
        int block = book.blockToRead(file, i);
        if (block == NONE) {
            throw new IndexOutOfBoundsException();
        }
        int leaf = openPathOf(block);
        if (leaf == NONE) {
            throw new IllegalStateException();
        }
        int word = data.wordOf(block, i % BLOCK_WORDS);
        data.putBack(leaf);
        return word;
    }

    public void idle() throws IllegalStateException {
        int leaf = openPathOf(dice.draw(DATA_BLOCK_BITS));
        if (leaf == NONE) {
            throw new IllegalStateException();
        }
        data.putBack(leaf);
    }

    public int sealed(int tree, int bucket, int i) throws IndexOutOfBoundsException {
        Tree chosen = treeNumbered(tree);
        if (chosen == null || !chosen.hasStored(bucket, i)) {
            throw new IndexOutOfBoundsException();
        }
        return chosen.storedWord(bucket, i);
    }

    public boolean alter(int tree, int bucket, int i, int v) {
        Tree chosen = treeNumbered(tree);
        return chosen != null && chosen.hasStored(bucket, i) && chosen.spoil(bucket, i, v);
    }

    public int counter(int tree, int bucket) {
        Tree chosen = treeNumbered(tree);
        return chosen == null || !chosen.hasBucket(bucket) ? NONE : chosen.timesSealed(bucket);
    }

    public int trace(int k, int what) {
        return trail.leafOf(k, what);
    }

    public int stash(int tree) {
        Tree chosen = treeNumbered(tree);
        return chosen == null ? NONE : chosen.countHeld();
    }

    public int state(int what) {
        switch (what) {
            case 0:
                return trail.countAll();
            case 1:
                return book.countFiles();
            case 2:
                return book.countFreeBlocks();
            case 3:
                return dead ? 1 : 0;
            default:
                return NONE;
        }
    }

    private Tree treeNumbered(int tree) {
        if (tree == 0) {
            return map;
        }
        return tree == 1 ? data : null;
    }

    private void beginAnew(int seed, int key) {
        dice.begin(seed);
        map.empty(key);
        data.empty(key);
        book.empty();
        trail.empty();
        dead = false;
        drawAllLeaves();
        map.settleAll();
        data.settleAll();
    }

    private void drawAllLeaves() {
        for (int j = 0; j < MAP_BLOCKS; j++) {
            mapLeaves[j] = dice.draw(MAP_LEAF_BITS);
            map.moveTo(j, mapLeaves[j]);
        }
        for (int d = 0; d < DATA_BLOCKS; d++) {
            int leaf = dice.draw(DATA_LEAF_BITS);
            data.moveTo(d, leaf);
            setEntry(d, leaf);
        }
    }

    /**
     * The first half of an access, all up to the use of the block's words: the leaf whose path
     * has to be put back in the data's tree afterwards, or NONE if the device is or comes to be
     * dead.
     */
    private int openPathOf(int block) {
        if (dead) {
            return NONE;
        }
        int mapBlock = block / ENTRIES;
        int mapLeaf = mapLeaves[mapBlock];
        mapLeaves[mapBlock] = dice.draw(MAP_LEAF_BITS);
        trail.add(mapLeaf);
        if (!map.take(mapLeaf)) {
            dead = true;
            return NONE;
        }
        map.moveTo(mapBlock, mapLeaves[mapBlock]);
        int leaf = entryOf(block);
        int nextLeaf = dice.draw(DATA_LEAF_BITS);
        setEntry(block, nextLeaf);
        map.putBack(mapLeaf);
        trail.setDataLeaf(leaf);
        if (!data.take(leaf)) {
            dead = true;
            return NONE;
        }
        data.moveTo(block, nextLeaf);
        return leaf;
    }

    /** Holds only while the map block of this data block is in the stash. */
    private int entryOf(int block) {
        int entry = block % ENTRIES;
        int word = map.wordOf(block / ENTRIES, entry / 2);
        return (word >>> entryShift(entry)) & ENTRY_MASK;
    }

    /** Lasts only while the map block of this data block is in the stash. */
    private void setEntry(int block, int leaf) {
        int entry = block % ENTRIES;
        int shift = entryShift(entry);
        int others = map.wordOf(block / ENTRIES, entry / 2) & ~(ENTRY_MASK << shift);
        map.setWord(block / ENTRIES, entry / 2, others | (leaf << shift));
    }

    private static int entryShift(int entry) {
        return 16 * (entry % 2);
    }

    /** The word from which every place is drawn. */
    private static final class Dice {
        private int word;

        void begin(int seed) {
            // the steps of a draw would leave 0 at 0 for ever
            word = seed == 0 ? 1 : seed;
        }

        int draw(int bits) {
            word ^= word << 13;
            word ^= word >>> 17;
            word ^= word << 5;
            return word >>> (32 - bits);
        }
    }

    /**
     * A tree of sealed buckets, with the client's stash for its blocks. The leaf and the words
     * of a block are known here only while it is in the stash; else the sealed store has them.
     */
    private static final class Tree {
        private static final int SLOTS = 4;
        private static final int SLOT_WORDS = 6;
        private static final int TAG = 24;
        private static final int BUCKET_WORDS = 25;

        private final int number;
        private final int leafCount;
        private final int levels;
        private final int buckets;
        private final int blocks;
        private final int[] store;
        private final int[] counters;
        private final boolean[] held;
        private final int[] leaves;
        private final int[] words;
        private int key;

        Tree(int number, int leafBits, int blocks) {
            this.number = number;
            this.leafCount = 1 << leafBits;
            this.levels = leafBits + 1;
            this.buckets = 2 * leafCount - 1;
            this.blocks = blocks;
            this.store = new int[buckets * BUCKET_WORDS];
            this.counters = new int[buckets];
            this.held = new boolean[blocks];
            this.leaves = new int[blocks];
            this.words = new int[blocks * BLOCK_WORDS];
        }

        /** The store is left plain and bare, for settleAll to fill and seal. */
        void empty(int newKey) {
            key = newKey;
            Arrays.fill(store, 0);
            Arrays.fill(counters, 1);
            Arrays.fill(words, 0);
            for (int n = 0; n < blocks; n++) {
                held[n] = true;
            }
        }

        void settleAll() {
            for (int n = 0; n < blocks; n++) {
                settle(n);
            }
            for (int b = 0; b < buckets; b++) {
                seal(b);
            }
        }

        boolean hasBucket(int bucket) {
            return bucket >= 0 && bucket < buckets;
        }

        boolean hasStored(int bucket, int i) {
            return hasBucket(bucket) && i >= 0 && i < BUCKET_WORDS;
        }

        int storedWord(int bucket, int i) {
            return store[bucket * BUCKET_WORDS + i];
        }

        int timesSealed(int bucket) {
            return counters[bucket];
        }

        int countHeld() {
            int count = 0;
            for (int n = 0; n < blocks; n++) {
                if (held[n]) {
                    count++;
                }
            }
            return count;
        }

        /** False, with the word as it was, if the bucket would be whole with it. */
        boolean spoil(int bucket, int i, int v) {
            int at = bucket * BUCKET_WORDS + i;
            int before = store[at];
            store[at] = v;
            if (isWhole(bucket)) {
                store[at] = before;
                return false;
            }
            return true;
        }

        void moveTo(int block, int leaf) {
            leaves[block] = leaf;
        }

        int wordOf(int block, int i) {
            return words[block * BLOCK_WORDS + i];
        }

        void setWord(int block, int i, int v) {
            words[block * BLOCK_WORDS + i] = v;
        }

        void clearWords(int block) {
            for (int i = 0; i < BLOCK_WORDS; i++) {
                setWord(block, i, 0);
            }
        }

        /** All tags are looked at ahead of the first move: a dead device stays as it was. */
        boolean take(int leaf) {
            for (int up = 0; up < levels; up++) {
                if (!isWhole(bucketOver(leaf, up))) {
                    return false;
                }
            }
            for (int up = 0; up < levels; up++) {
                unload(bucketOver(leaf, up));
            }
            return true;
        }

        void putBack(int leaf) {
            for (int up = 0; up < levels; up++) {
                int bucket = bucketOver(leaf, up);
                load(bucket, up);
                counters[bucket]++;
                seal(bucket);
            }
        }

        /** The bucket so many levels over the lowest one of a leaf's path. */
        private int bucketOver(int leaf, int up) {
            return ((leafCount + leaf) >> up) - 1;
        }

        /** Only for buckets that lie plain. */
        private void settle(int block) {
            for (int up = 0; up < levels; up++) {
                int bucket = bucketOver(leaves[block], up);
                for (int slot = 0; slot < SLOTS; slot++) {
                    if (store[slotStart(bucket, slot)] == 0) {
                        place(block, bucket, slot);
                        return;
                    }
                }
            }
        }

        private void load(int bucket, int up) {
            int slot = 0;
            for (int n = 0; n < blocks && slot < SLOTS; n++) {
                if (held[n] && bucketOver(leaves[n], up) == bucket) {
                    place(n, bucket, slot);
                    slot++;
                }
            }
        }

        private void place(int block, int bucket, int slot) {
            int at = slotStart(bucket, slot);
            store[at] = block + 1;
            store[at + 1] = leaves[block];
            for (int i = 0; i < BLOCK_WORDS; i++) {
                store[at + 2 + i] = wordOf(block, i);
            }
            held[block] = false;
        }

        private void unload(int bucket) {
            maskWords(bucket);
            for (int slot = 0; slot < SLOTS; slot++) {
                hold(slotStart(bucket, slot));
            }
            int from = bucket * BUCKET_WORDS;
            for (int i = 0; i < BUCKET_WORDS; i++) {
                store[from + i] = 0;
            }
        }

        private void hold(int at) {
            int block = store[at] - 1;
            if (block < 0 || block >= blocks) {
                return;
            }
            held[block] = true;
            leaves[block] = store[at + 1];
            for (int i = 0; i < BLOCK_WORDS; i++) {
                setWord(block, i, store[at + 2 + i]);
            }
        }

        private static int slotStart(int bucket, int slot) {
            return bucket * BUCKET_WORDS + slot * SLOT_WORDS;
        }

        private void seal(int bucket) {
            maskWords(bucket);
            store[bucket * BUCKET_WORDS + TAG] = tagDue(bucket);
        }

        private boolean isWhole(int bucket) {
            return store[bucket * BUCKET_WORDS + TAG] == tagDue(bucket);
        }

        /** Its own inverse: it hides plain words and lays sealed ones open. */
        private void maskWords(int bucket) {
            int from = bucket * BUCKET_WORDS;
            for (int i = 0; i < TAG; i++) {
                store[from + i] ^= pad(bucket, i);
            }
        }

        private int tagDue(int bucket) {
            int from = bucket * BUCKET_WORDS;
            int tag = pad(bucket, TAG);
            for (int i = 0; i < TAG; i++) {
                tag = (tag ^ store[from + i]) * 16777619;
            }
            return tag;
        }

        private int pad(int bucket, int i) {
            int h = key
                    ^ (64 * number + bucket + 1) * -1640531535
                    ^ counters[bucket] * -2048144777
                    ^ (i + 1) * -1028477379;
            h ^= h >>> 15;
            h *= 739982445;
            h ^= h >>> 12;
            h *= 695872825;
            h ^= h >>> 15;
            return h;
        }
    }

    /** The client's book of files; a free number has the length NONE. */
    private static final class Book {
        private static final int FILES = 8;
        private static final int PARTS = 6;
        private static final int MOST_WORDS = PARTS * BLOCK_WORDS;

        private final long[] names = new long[FILES];
        private final int[] lengths = new int[FILES];
        private final int[] partBlocks = new int[FILES * PARTS];
        private final boolean[] taken = new boolean[DATA_BLOCKS];

        void empty() {
            Arrays.fill(lengths, NONE);
            for (int d = 0; d < DATA_BLOCKS; d++) {
                taken[d] = false;
            }
        }

        int add(long name) {
            int file = leastFreeNumber();
            if (file == NONE || numberOf(name) != NONE) {
                return NONE;
            }
            names[file] = name;
            lengths[file] = 0;
            return file;
        }

        int numberOf(long name) {
            for (int f = 0; f < FILES; f++) {
                if (lengths[f] != NONE && names[f] == name) {
                    return f;
                }
            }
            return NONE;
        }

        boolean drop(int file) {
            if (lengthOf(file) == NONE) {
                return false;
            }
            for (int i = 0; i < lengths[file]; i += BLOCK_WORDS) {
                taken[partBlocks[partAt(file, i)]] = false;
            }
            lengths[file] = NONE;
            return true;
        }

        int lengthOf(int file) {
            return file < 0 || file >= FILES ? NONE : lengths[file];
        }

        /** The data block with word i of a file; NONE if there is no such word. */
        int blockToRead(int file, int i) {
            return i < 0 || i >= lengthOf(file) ? NONE : partBlocks[partAt(file, i)];
        }

        /** As blockToRead, but the word right behind the end is one too, as long as it fits. */
        int blockToWrite(int file, int i) {
            if (i < 0 || i > lengthOf(file) || i >= MOST_WORDS) {
                return NONE;
            }
            return opensPart(file, i) ? leastFreeBlock() : partBlocks[partAt(file, i)];
        }

        boolean opensPart(int file, int i) {
            return i == lengthOf(file) && i % BLOCK_WORDS == 0;
        }

        /** Told only of accesses that went well, so that a failed one leaves the book as it was. */
        void noteWritten(int file, int i, int block) {
            if (opensPart(file, i)) {
                partBlocks[partAt(file, i)] = block;
                taken[block] = true;
            }
            if (i == lengths[file]) {
                lengths[file]++;
            }
        }

        int countFiles() {
            int count = 0;
            for (int f = 0; f < FILES; f++) {
                if (lengths[f] != NONE) {
                    count++;
                }
            }
            return count;
        }

        int countFreeBlocks() {
            int count = 0;
            for (int d = 0; d < DATA_BLOCKS; d++) {
                if (!taken[d]) {
                    count++;
                }
            }
            return count;
        }

        private static int partAt(int file, int i) {
            return file * PARTS + i / BLOCK_WORDS;
        }

        private int leastFreeNumber() {
            for (int f = 0; f < FILES; f++) {
                if (lengths[f] == NONE) {
                    return f;
                }
            }
            return NONE;
        }

        private int leastFreeBlock() {
            for (int d = 0; d < DATA_BLOCKS; d++) {
                if (!taken[d]) {
                    return d;
                }
            }
            return NONE;
        }
    }

    /** The leaves of the latest accesses, in rows that are gone over in a ring. */
    private static final class Trail {
        private static final int KEPT = 64;

        private final int[] mapLeaf = new int[KEPT];
        private final int[] dataLeaf = new int[KEPT];
        private int count;

        void empty() {
            count = 0;
        }

        /** The data's leaf stays NONE until it is known: the device may die ahead of it. */
        void add(int leaf) {
            mapLeaf[count % KEPT] = leaf;
            dataLeaf[count % KEPT] = NONE;
            count++;
        }

        void setDataLeaf(int leaf) {
            if (count > 0) {
                dataLeaf[(count - 1) % KEPT] = leaf;
            }
        }

        int countAll() {
            return count;
        }

        int leafOf(int k, int what) {
            if (k < 0 || k >= KEPT || k >= count) {
                return NONE;
            }
            int at = (count - 1 - k) % KEPT;
            if (what == 0) {
                return mapLeaf[at];
            }
            return what == 1 ? dataLeaf[at] : NONE;
        }
    }
}
