/** Promises 7 to 9: write, read, idle. */
public final class AccessTest {
    private static final Due due = new Due();

    public static void main(String[] args) {
        wordsAreKept();
        wordsAreChanged();
        blocksAreGotWhenNeeded();
        gotBlocksAreCleared();
        wrongPlacesAreRefused();
        anAccessGoesOverBothPaths();
        anIdleAccessChangesNoFile();
        anIdleAccessGoesToADrawnBlock();
        aSpoiltMapKillsTheDevice();
        spoiltDataKillTheDevice();
        aDeadDeviceStaysAsItWas();
        aSpoiltBucketBesideThePathDoesNotMatter();
        placesAreLookedAtFirst();
        due.end();
    }

    private static void wordsAreKept() {
        VeiledFiles x = new VeiledFiles();
        for (int f = 0; f < 8; f++) {
            x.create(f);
            for (int i = 0; i < 24; i++) {
                x.write(f, i, wordFor(f, i));
            }
        }
        due.is("state(2), all files being full", x.state(2), 16);
        for (int f = 0; f < 8; f++) {
            for (int i = f % 2; i < 24; i += 2) {
                due.is("read(" + f + ", " + i + ")", x.read(f, i), wordFor(f, i));
            }
        }
    }

    private static int wordFor(int file, int i) {
        return (24 * file + i + 1) * -1640531527;
    }

    private static void wordsAreChanged() {
        VeiledFiles x = new VeiledFiles();
        x.create(0);
        int[] words = {0, -1, Integer.MIN_VALUE, Integer.MAX_VALUE, 1};
        for (int i = 0; i < 5; i++) {
            x.write(0, i, words[i]);
        }
        x.write(0, 1, 222);
        x.write(0, 4, 444);
        words[1] = 222;
        words[4] = 444;
        for (int i = 0; i < 5; i++) {
            due.is("read(0, " + i + ")", x.read(0, i), words[i]);
        }
        due.is("size(0)", x.size(0), 5);
    }

    private static void blocksAreGotWhenNeeded() {
        VeiledFiles x = new VeiledFiles();
        x.create(0);
        for (int i = 0; i < 24; i++) {
            x.write(0, i, i);
            due.is("state(2) with " + (i + 1) + " words", x.state(2), 63 - i / 4);
            x.write(0, i, -i);
            due.is("state(2) after a change", x.state(2), 63 - i / 4);
        }
    }

    /** The block of a removed file comes to be another's: none of the old words shines through. */
    private static void gotBlocksAreCleared() {
        VeiledFiles x = new VeiledFiles();
        Model model = new Model();
        x.create(0);
        model.create(0);
        for (int i = 0; i < 4; i++) {
            x.write(0, i, 1 << 20 + i);
            model.write(0, i, 1 << 20 + i);
        }
        x.remove(0);
        model.remove(0);
        x.create(1);
        model.create(1);
        x.write(0, 0, 3);
        model.write(0, 0, 3);
        sameBucketsOfLatestPath(x, model);
        x.write(0, 1, 4);
        x.write(0, 2, 5);
        due.is("read(0, 0)", x.read(0, 0), 3);
        due.is("read(0, 2)", x.read(0, 2), 5);
    }

    private static void sameBucketsOfLatestPath(VeiledFiles x, Model model) {
        for (int b = 31 + x.trace(0, 1); b >= 0; b = b == 0 ? -1 : (b - 1) / 2) {
            for (int i = 0; i < 25; i++) {
                due.is("sealed(1, " + b + ", " + i + ")", x.sealed(1, b, i), model.sealed(1, b, i));
            }
        }
    }

    private static void wrongPlacesAreRefused() {
        VeiledFiles x = new VeiledFiles();
        x.create(0);
        x.write(0, 0, 5);
        int[] noFiles = {-1, 1, 7, 8, Integer.MIN_VALUE, Integer.MAX_VALUE};
        for (int file : noFiles) {
            due.outOfBounds("read(" + file + ", 0)", () -> x.read(file, 0));
            due.outOfBounds("write(" + file + ", 0, 1)", () -> x.write(file, 0, 1));
            due.outOfBounds("write(" + file + ", -1, 1)", () -> x.write(file, -1, 1));
        }
        int[] noPlaces = {-1, -4, 2, 3, 4, 23, 24, 25, Integer.MIN_VALUE, Integer.MAX_VALUE};
        for (int i : noPlaces) {
            due.outOfBounds("read(0, " + i + ")", () -> x.read(0, i));
            due.outOfBounds("write(0, " + i + ", 1)", () -> x.write(0, i, 1));
        }
        due.outOfBounds("read(0, 1), right behind the end", () -> x.read(0, 1));
        due.is("state(0) after refused calls", x.state(0), 1);
        due.is("size(0) after refused calls", x.size(0), 1);
        due.is("state(2) after refused calls", x.state(2), 63);
        for (int i = 1; i < 24; i++) {
            x.write(0, i, i);
        }
        due.outOfBounds("write(0, 24, 1) of a full file", () -> x.write(0, 24, 1));
        due.outOfBounds("read(0, 24) of a full file", () -> x.read(0, 24));
        due.nothingThrown("write(0, 23, 1) of a full file", () -> x.write(0, 23, 1));
        due.is("state(0)", x.state(0), 25);
    }

    private static void anAccessGoesOverBothPaths() {
        VeiledFiles written = started(99, 98);
        written.create(0);
        goesOverItsPaths("write(0, 0, 1)", written, () -> written.write(0, 0, 1));
        VeiledFiles readOnce = started(97, 96);
        readOnce.create(0);
        readOnce.write(0, 0, 1);
        goesOverItsPaths("read(0, 0)", readOnce, () -> readOnce.read(0, 0));
        VeiledFiles idled = started(95, 94);
        goesOverItsPaths("idle()", idled, idled::idle);
    }

    private static VeiledFiles started(int seed, int key) {
        VeiledFiles x = new VeiledFiles();
        x.start(seed, key);
        return x;
    }

    private static void goesOverItsPaths(String call, VeiledFiles x, Runnable access) {
        int[] before = counters(x);
        int accesses = x.state(0);
        access.run();
        int[] after = counters(x);
        due.is(call + ", state(0)", x.state(0), accesses + 1);
        for (int b = 0; b < 7; b++) {
            boolean touched = isOnPath(b, 3 + x.trace(0, 0));
            due.is(call + ", counter(0, " + b + ")", after[b], before[b] + (touched ? 1 : 0));
        }
        for (int b = 0; b < 63; b++) {
            boolean touched = isOnPath(b, 31 + x.trace(0, 1));
            due.is(call + ", counter(1, " + b + ")",
                    after[7 + b], before[7 + b] + (touched ? 1 : 0));
        }
    }

    private static int[] counters(VeiledFiles x) {
        int[] counters = new int[70];
        for (int b = 0; b < 70; b++) {
            counters[b] = b < 7 ? x.counter(0, b) : x.counter(1, b - 7);
        }
        return counters;
    }

    private static boolean isOnPath(int bucket, int lowest) {
        int b = lowest;
        while (b > bucket) {
            b = (b - 1) / 2;
        }
        return b == bucket;
    }

    private static void anIdleAccessChangesNoFile() {
        VeiledFiles x = new VeiledFiles();
        x.create(0);
        for (int i = 0; i < 24; i++) {
            x.write(0, i, 7 * i);
        }
        for (int k = 0; k < 200; k++) {
            due.nothingThrown("idle()", x::idle);
        }
        due.is("state(0)", x.state(0), 224);
        due.is("state(2)", x.state(2), 58);
        for (int i = 0; i < 24; i++) {
            due.is("read(0, " + i + ")", x.read(0, i), 7 * i);
        }
    }

    private static void anIdleAccessGoesToADrawnBlock() {
        VeiledFiles x = new VeiledFiles();
        Model model = new Model();
        x.start(2024, 11);
        model.start(2024, 11);
        for (int k = 0; k < 120; k++) {
            x.idle();
            model.idle();
            due.is("trace(0, 0) after idle()", x.trace(0, 0), model.trace(0, 0));
            due.is("trace(0, 1) after idle()", x.trace(0, 1), model.trace(0, 1));
        }
    }

    private static void aSpoiltMapKillsTheDevice() {
        VeiledFiles x = new VeiledFiles();
        x.create(0);
        x.write(0, 0, 1);
        int upper = x.sealed(0, 0, 5);
        due.is("alter(0, 0, 24, 0)", x.alter(0, 0, 24, 0), true);
        due.illegalState("write(0, 1, 2)", () -> x.write(0, 1, 2));
        due.is("state(3)", x.state(3), 1);
        due.is("state(0)", x.state(0), 2);
        due.is("size(0)", x.size(0), 1);
        due.is("trace(0, 1)", x.trace(0, 1), -1);
        due.is("counter(0, 0)", x.counter(0, 0), 2);
        due.is("counter(1, 0)", x.counter(1, 0), 2);
        due.is("stash(0)", x.stash(0), 0);
        due.is("sealed(0, 0, 5)", x.sealed(0, 0, 5), upper);
        due.is("sealed(0, 0, 24)", x.sealed(0, 0, 24), 0);
    }

    private static void spoiltDataKillTheDevice() {
        VeiledFiles x = new VeiledFiles();
        x.create(0);
        x.create(1);
        for (int i = 0; i < 4; i++) {
            x.write(0, i, i);
        }
        int stashed = x.stash(1);
        due.is("alter(1, 0, 7, 1)", x.alter(1, 0, 7, 1), true);
        due.illegalState("write(0, 4, 2), a new part", () -> x.write(0, 4, 2));
        due.is("state(3)", x.state(3), 1);
        due.is("state(0)", x.state(0), 5);
        due.is("state(2), the block not being got", x.state(2), 63);
        due.is("size(0)", x.size(0), 4);
        due.is("the data's leaf is in the trace", x.trace(0, 1) != -1, true);
        due.is("counter(0, 0), the map being put back", x.counter(0, 0), 6);
        due.is("counter(1, 0)", x.counter(1, 0), 5);
        due.is("stash(1)", x.stash(1), stashed);
        due.is("sealed(1, 0, 7)", x.sealed(1, 0, 7), 1);
    }

    private static void aDeadDeviceStaysAsItWas() {
        VeiledFiles x = new VeiledFiles();
        x.create(0);
        x.write(0, 0, 1);
        x.alter(1, 0, 0, 0);
        due.illegalState("read(0, 0) on a spoilt store", () -> x.read(0, 0));
        int tag = x.sealed(0, 0, 24);
        due.illegalState("read(0, 0) of a dead device", () -> x.read(0, 0));
        due.illegalState("write(0, 0, 1) of a dead device", () -> x.write(0, 0, 1));
        due.illegalState("write(0, 1, 1) of a dead device", () -> x.write(0, 1, 1));
        due.illegalState("idle() of a dead device", x::idle);
        due.is("state(0)", x.state(0), 2);
        due.is("state(3)", x.state(3), 1);
        due.is("size(0)", x.size(0), 1);
        due.is("counter(0, 0)", x.counter(0, 0), 3);
        due.is("sealed(0, 0, 24)", x.sealed(0, 0, 24), tag);
        due.is("trace(2, 0)", x.trace(2, 0), -1);
    }

    /** Each bucket is spoilt in turn: the first access dies at those of its own path. */
    private static void aSpoiltBucketBesideThePathDoesNotMatter() {
        VeiledFiles x = new VeiledFiles();
        x.create(0);
        x.write(0, 0, 1);
        int leaf = x.trace(0, 1);
        for (int b = 0; b < 63; b++) {
            x.start(1, 0);
            x.create(0);
            x.alter(1, b, 2, 12345);
            String call = "write(0, 0, 1), bucket " + b + " being spoilt";
            if (isOnPath(b, 31 + leaf)) {
                due.illegalState(call, () -> x.write(0, 0, 1));
            } else {
                due.nothingThrown(call, () -> x.write(0, 0, 1));
            }
        }
    }

    /** The document names the place first; so it is looked at first, also of a dead device. */
    private static void placesAreLookedAtFirst() {
        VeiledFiles x = new VeiledFiles();
        x.create(0);
        x.alter(0, 0, 0, 0);
        due.illegalState("idle()", x::idle);
        due.outOfBounds("read(0, 0) of an empty file", () -> x.read(0, 0));
        due.outOfBounds("write(0, 1, 0) of an empty file", () -> x.write(0, 1, 0));
        due.outOfBounds("write(5, 0, 0)", () -> x.write(5, 0, 0));
        due.illegalState("write(0, 0, 0)", () -> x.write(0, 0, 0));
    }
}
