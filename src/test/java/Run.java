/**
 * A run of calls on a new object, which can be made again at will: an object answers only 512
 * calls, fewer than its store has words.
 */
interface Run {
    VeiledFiles made();

    static VeiledFiles started(int seed, int key) {
        VeiledFiles x = new VeiledFiles();
        x.start(seed, key);
        return x;
    }

    /** With file 0, of name 1, that has so many words; word i is wordAt(i). */
    static VeiledFiles withWords(int words) {
        VeiledFiles x = new VeiledFiles();
        x.create(1);
        writeWords(x, 0, words);
        return x;
    }

    static void writeWords(VeiledFiles x, int file, int words) {
        for (int i = 0; i < words; i++) {
            x.write(file, i, wordAt(i));
        }
    }

    /** Eight full files; word i of file f, in block 6 * f + i / 4, is wordAt(24 * f + i). */
    static VeiledFiles filled(VeiledFiles x) {
        for (int f = 0; f < 8; f++) {
            x.create(f);
            for (int i = 0; i < 24; i++) {
                x.write(f, i, wordAt(24 * f + i));
            }
        }
        return x;
    }

    static int wordAt(int i) {
        return (i + 1) * -1640531527;
    }

    static VeiledFiles idled(VeiledFiles x, int times) {
        for (int k = 0; k < times; k++) {
            x.idle();
        }
        return x;
    }

    /** Every path goes over bucket 0, so the next access dies in this tree. */
    static VeiledFiles spoilt(VeiledFiles x, int tree) {
        x.alter(tree, 0, 24, ~x.sealed(tree, 0, 24));
        return x;
    }

    /** One access has found this tree altered. */
    static VeiledFiles dead(VeiledFiles x, int tree) {
        spoilt(x, tree);
        Due.thrownBy(x::idle);
        return x;
    }
}
