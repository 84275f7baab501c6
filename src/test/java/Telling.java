/** What the tests share: the kinds of ACTS, short ways to tell a block, and looks at several answers at once. */
class Telling {
    static final int NONE = ParallelUndo.NONE;
    static final int SET = 0;
    static final int READ = 1;
    static final int WRITE = 2;
    static final int PLUS = 3;
    static final int MINUS = 4;
    static final int TIMES = 5;
    static final int PASS = 6;
    static final int EVENT = 7;
    static final int FAIL = 8;

    static final int MIN = Integer.MIN_VALUE;
    static final int MAX = Integer.MAX_VALUE;

    static final Due due = new Due();

    static int add(ParallelUndo x, long[]... acts) {
        int c = x.call();
        for (long[] a : acts) {
            if (x.act(c, (int) a[0], (int) a[1], (int) a[2], a[3]) == NONE) {
                throw new IllegalStateException("the test tells an act that is refused");
            }
        }
        return c;
    }

    static long[] a(int kind, int r, int s, long v) {
        return new long[] {kind, r, s, v};
    }

    /** One call, run by one worker. */
    static ParallelUndo alone(long[]... acts) {
        ParallelUndo x = new ParallelUndo();
        add(x, acts);
        x.run(1, 0);
        return x;
    }

    static void told(String name, ParallelUndo x, int... want) {
        for (int what = 0; what < want.length; what++) {
            due.is(name + ": told(" + what + ")", x.told(what), want[what]);
        }
        due.is(name + ": told(-1)", x.told(-1), NONE);
        due.is(name + ": told(8)", x.told(8), NONE);
    }

    static void of(String name, ParallelUndo x, int c, int... want) {
        for (int what = 0; what < want.length; what++) {
            due.is(name + ": of(" + c + ", " + what + ")", x.of(c, what), want[what]);
        }
        due.is(name + ": of(" + c + ", -1)", x.of(c, -1), NONE);
        due.is(name + ": of(" + c + ", 6)", x.of(c, 6), NONE);
    }

    static void conflicts(String name, ParallelUndo x, int... pairs) {
        int count = pairs.length / 2;
        due.is(name + ": conflicts()", x.conflicts(), count);
        for (int i = 0; i < count; i++) {
            due.is(name + ": conflict(" + i + ", 0)", x.conflict(i, 0), pairs[2 * i]);
            due.is(name + ": conflict(" + i + ", 1)", x.conflict(i, 1), pairs[2 * i + 1]);
            due.is(name + ": conflict(" + i + ", 2)", x.conflict(i, 2), -2);
            due.is(name + ": conflict(" + i + ", -1)", x.conflict(i, -1), -2);
        }
        due.is(name + ": conflict behind the last", x.conflict(count, 0), -2);
        due.is(name + ": conflict(-1, 0)", x.conflict(-1, 0), -2);
        due.is(name + ": conflict(MAX, 1)", x.conflict(MAX, 1), -2);
        due.is(name + ": conflict(MIN, 1)", x.conflict(MIN, 1), -2);
    }

    /** The values of all EVENTS, in their order. */
    static void events(String name, ParallelUndo x, long... want) {
        due.is(name + ": events()", x.events(), want.length);
        for (int i = 0; i < want.length; i++) {
            due.is(name + ": event(" + i + ", 0)", x.event(i, 0), want[i]);
        }
        due.is(name + ": event behind the last", x.event(want.length, 0), 0);
    }

    /** Call 0 writes 5 to LEAF 3, call 1 makes an EVENT of it. */
    static ParallelUndo writerAndReader() {
        ParallelUndo x = new ParallelUndo();
        add(x, a(SET, 0, 0, 5), a(WRITE, 0, 1, 3));
        add(x, a(READ, 0, 1, 3), a(EVENT, 0, 0, 0));
        return x;
    }

    /*
     * For writerAndReader:
     * 1 w0 takes call 0. 2 w1: V 1. 3 w1 takes call 1. 4 w1 reads LEAF 3 of NONE. 5 w1: call 1 ends.
     * 6, 7 w0: call 0 ends, V 0. 8, 9 w0 looks at 0. 10, 11 w0 looks at 1: undone by 0, runs it.
     * 12, 13 w0: call 1 ends, V is above it. 14 w0 looks at it, all is done.
     */
    static final int[] UNDO_TURNS = {0, 1, 1, 1, 1, 0, 0, 0, 0, 0, 0, 0, 0, 0};

    /*
     * A block in which, with CROWD_SEED, some call is undone eight times and none more often, so that it tells
     * BOUND 8 from 7 and 9. It was found by a search: a crowd of calls hardly ever comes that far.
     */
    static final int CROWD_SEED = 1588837630;
    static final long[][][] CROWD = {
        {{1, 2, 0, 12}, {1, 1, 3, 14}, {0, 3, 0, 0}, {2, 2, 2, 2}, {2, 1, 0, 23}, {2, 1, 1, 22}, {3, 3, 2, 0},
            {2, 1, 2, 31}, {1, 2, 3, 1}, {2, 0, 3, 27}},
        {{1, 1, 2, 1}, {2, 2, 2, 19}, {2, 0, 3, 4}, {2, 1, 0, 0}},
        {{0, 2, 0, 22}, {1, 1, 3, 23}, {1, 3, 0, 4}, {2, 2, 2, 15}},
        {{0, 3, 0, 25}, {3, 1, 3, 0}, {1, 0, 1, 12}, {1, 2, 0, 27}, {3, 3, 3, 0}, {1, 1, 3, 28}},
        {{1, 3, 1, 28}, {3, 3, 3, 0}, {2, 2, 0, 21}},
        {},
        {},
        {{1, 3, 1, 21}, {1, 2, 0, 21}, {1, 2, 2, 0}, {1, 1, 2, 12}, {2, 3, 1, 23}, {1, 2, 3, 8}, {0, 0, 0, 13},
            {2, 2, 0, 31}},
        {{0, 1, 0, 2}, {0, 0, 0, 27}, {2, 1, 3, 10}, {2, 0, 2, 12}, {1, 3, 0, 28}, {2, 0, 1, 27}},
        {{1, 1, 2, 29}, {1, 0, 1, 15}, {1, 2, 3, 13}, {3, 1, 1, 0}, {2, 1, 0, 21}, {1, 0, 2, 21}},
        {{1, 3, 1, 23}, {2, 3, 3, 20}, {1, 3, 0, 12}, {3, 2, 3, 0}, {1, 1, 3, 29}, {1, 3, 3, 16}},
        {{3, 2, 1, 0}, {1, 0, 0, 19}, {1, 1, 1, 21}, {2, 2, 0, 29}, {1, 1, 2, 10}, {2, 3, 1, 22}},
        {{1, 2, 2, 12}, {2, 0, 2, 0}},
        {{1, 2, 2, 10}, {1, 0, 2, 22}, {1, 1, 0, 0}},
    };

    static ParallelUndo crowd() {
        ParallelUndo x = new ParallelUndo();
        for (long[][] acts : CROWD) {
            add(x, acts);
        }
        return x;
    }
}
