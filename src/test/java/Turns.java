/** The order in which a seed lets the workers step, for tests that are worked out turn by turn. */
final class Turns {
    private Turns() {
    }

    /** In longs, cut to 32 bits: another way than the class's, which lets ints go round. */
    static boolean begins(int workers, int seed, int... order) {
        long x = seed & 0xffffffffL;
        for (int w : order) {
            x = (x * 1103515245L + 12345L) & 0xffffffffL;
            if ((x >> 16) % workers != w) {
                return false;
            }
        }
        return true;
    }

    /** The least seed from 0 on whose turns begin so. */
    static int seedFor(int workers, int... order) {
        for (int seed = 0; seed >= 0; seed++) {
            if (begins(workers, seed, order)) {
                return seed;
            }
        }
        throw new IllegalStateException("no seed has these turns");
    }
}
