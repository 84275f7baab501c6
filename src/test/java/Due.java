/** Counts answers that are not the ones that are due, and tells each of them. */
final class Due {
    private static final int MOST_TOLD = 50;

    private int looked;
    private int wrong;

    void is(String what, long got, long want) {
        looked++;
        if (got != want) {
            wrong++;
            if (wrong <= MOST_TOLD) {
                System.out.println(what + " answered " + got + ", due is " + want);
            }
        }
    }

    void is(String what, boolean got, boolean want) {
        is(what, got ? 1 : 0, want ? 1 : 0);
    }

    boolean allRight() {
        return wrong == 0;
    }

    void close(String name) {
        System.out.println(name + ": " + looked + " answers looked at, " + wrong + " not as due");
        if (wrong != 0) {
            System.exit(1);
        }
    }
}
