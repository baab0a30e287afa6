/** The draws of the document in longs, so that none comes near a sign. */
final class Draws {
    private static final long INT = 0xffffffffL;

    /** The leaves that the start draws. */
    final int[] mapLeaves = new int[8];
    final int[] leaves = new int[64];
    private long g;

    Draws(int seed) {
        g = seed & INT;
        for (int j = 0; j < mapLeaves.length; j++) {
            mapLeaves[j] = next(2);
        }
        for (int d = 0; d < leaves.length; d++) {
            leaves[d] = next(5);
        }
    }

    int next(int bits) {
        g ^= g << 13 & INT;
        g ^= g >> 17;
        g ^= g << 5 & INT;
        return (int) (g >> 32 - bits);
    }
}
