/** Promises 3 to 6: create, find, remove, size. */
public final class BookTest {
    private static final int[] NO_FILES =
            {-1, 8, 9, 64, Integer.MIN_VALUE, Integer.MAX_VALUE};
    private static final Due due = new Due();

    public static void main(String[] args) {
        numbersAreTheLeastFree();
        aNameIsTakenOnce();
        thereAreEightAtMost();
        namesAreLongs();
        filesAreFound();
        filesAreRemoved();
        removedBlocksAreFree();
        sizesGrowByWritesAlone();
        theBookOutlivesTheDevice();
        due.end();
    }

    private static void numbersAreTheLeastFree() {
        VeiledFiles x = new VeiledFiles();
        for (int f = 0; f < 5; f++) {
            due.is("create(" + 10 * f + ")", x.create(10 * f), f);
        }
        x.remove(3);
        x.remove(1);
        due.is("create(100), 1 and 3 being free", x.create(100), 1);
        due.is("create(101), 3 being free", x.create(101), 3);
        due.is("create(102)", x.create(102), 5);
    }

    private static void aNameIsTakenOnce() {
        VeiledFiles x = new VeiledFiles();
        x.create(5);
        x.create(6);
        due.is("create(6) again", x.create(6), -1);
        due.is("create(5) again", x.create(5), -1);
        due.is("state(1) after refused names", x.state(1), 2);
        due.is("remove(0)", x.remove(0), true);
        due.is("create(6), 0 being free", x.create(6), -1);
        due.is("create(5), its file being gone", x.create(5), 0);
    }

    private static void thereAreEightAtMost() {
        VeiledFiles x = new VeiledFiles();
        for (int f = 0; f < 8; f++) {
            due.is("create(" + f + ")", x.create(f), f);
        }
        due.is("create(8), eight being there", x.create(8), -1);
        due.is("find(8) after it was refused", x.find(8), -1);
        due.is("create(3), eight being there", x.create(3), -1);
        due.is("state(1)", x.state(1), 8);
        x.remove(7);
        due.is("create(8), seven being there", x.create(8), 7);
    }

    private static void namesAreLongs() {
        long[] names = {0, -1, Long.MIN_VALUE, Long.MAX_VALUE, 1L << 32, 0xffffffffL, 1};
        VeiledFiles x = new VeiledFiles();
        for (int f = 0; f < names.length; f++) {
            due.is("find(" + names[f] + ") ahead of it", x.find(names[f]), -1);
            due.is("create(" + names[f] + ")", x.create(names[f]), f);
        }
        for (int f = 0; f < names.length; f++) {
            due.is("find(" + names[f] + ")", x.find(names[f]), f);
        }
    }

    private static void filesAreFound() {
        VeiledFiles x = new VeiledFiles();
        due.is("find(0) with no files", x.find(0), -1);
        x.create(40);
        x.create(41);
        due.is("find(40)", x.find(40), 0);
        due.is("find(41)", x.find(41), 1);
        due.is("find(42)", x.find(42), -1);
        x.remove(0);
        due.is("find(40), its file being gone", x.find(40), -1);
        due.is("find(41), the other being gone", x.find(41), 1);
    }

    private static void filesAreRemoved() {
        VeiledFiles x = new VeiledFiles();
        due.is("remove(0) with no files", x.remove(0), false);
        x.create(1);
        for (int file : NO_FILES) {
            due.is("remove(" + file + ")", x.remove(file), false);
        }
        due.is("state(1) after refused removals", x.state(1), 1);
        due.is("remove(0)", x.remove(0), true);
        due.is("remove(0) again", x.remove(0), false);
        due.is("size(0), its file being gone", x.size(0), -1);
        due.is("state(1)", x.state(1), 0);
        due.outOfBounds("read of a removed file", () -> x.read(0, 0));
        due.outOfBounds("write of a removed file", () -> x.write(0, 0, 0));
    }

    private static void removedBlocksAreFree() {
        VeiledFiles x = new VeiledFiles();
        x.create(1);
        x.create(2);
        for (int i = 0; i < 24; i++) {
            x.write(0, i, 1000 + i);
        }
        x.write(1, 0, 55);
        due.is("state(2) with seven parts", x.state(2), 57);
        int accesses = x.state(0);
        int upper = x.sealed(1, 0, 24);
        due.is("remove(0)", x.remove(0), true);
        due.is("state(0) after a removal", x.state(0), accesses);
        due.is("sealed(1, 0, 24) after a removal", x.sealed(1, 0, 24), upper);
        due.is("state(2) with one part", x.state(2), 63);
        due.is("create(3)", x.create(3), 0);
        due.is("size(0) of a new file at an old number", x.size(0), 0);
        due.outOfBounds("read(0, 0) of an empty file", () -> x.read(0, 0));
        x.write(0, 0, 7);
        due.is("read(0, 0)", x.read(0, 0), 7);
        due.is("read(1, 0), the other's", x.read(1, 0), 55);
    }

    private static void sizesGrowByWritesAlone() {
        VeiledFiles x = new VeiledFiles();
        due.is("size(0) with no files", x.size(0), -1);
        x.create(1);
        for (int file : NO_FILES) {
            due.is("size(" + file + ")", x.size(file), -1);
        }
        due.is("size(1)", x.size(1), -1);
        for (int i = 0; i < 24; i++) {
            due.is("size(0)", x.size(0), i);
            x.write(0, i, i);
            x.write(0, i / 2, i);
            x.read(0, i);
            x.idle();
        }
        due.is("size(0)", x.size(0), 24);
        due.outOfBounds("write(0, 24, 0)", () -> x.write(0, 24, 0));
        due.is("size(0) after a refused write", x.size(0), 24);
    }

    private static void theBookOutlivesTheDevice() {
        VeiledFiles x = new VeiledFiles();
        x.create(1);
        x.write(0, 0, 1);
        x.alter(0, 0, 0, 0);
        due.illegalState("idle() on a spoilt store", x::idle);
        due.is("size(0), the device being dead", x.size(0), 1);
        due.is("find(1), the device being dead", x.find(1), 0);
        due.is("create(2), the device being dead", x.create(2), 1);
        due.is("remove(0), the device being dead", x.remove(0), true);
        due.is("state(2), the device being dead", x.state(2), 64);
    }
}
