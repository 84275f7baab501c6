/** The order in which a seed lets the workers step, for tests that are worked out turn by turn. */
final class Turns {
    private Turns() {
    }

    static boolean begins(int workers, int seed, int[] order) {
        int x = seed;
        for (int w : order) {
            x = x * 1103515245 + 12345;
            if ((x >>> 16) % workers != w) {
                return false;
            }
        }
        return true;
    }

    /** The least seed from 0 on whose turns begin so. */
    static int seedFor(int workers, int... order) {
        for (int seed = 0; seed >= 0; seed++) {
            if (begins(workers, seed, order)) {
                return seed;
            }
        }
        throw new IllegalStateException("no seed has these turns");
    }
}
