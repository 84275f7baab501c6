import java.util.Random;

/** Random runs of calls, each answered by the class and by the model; the seeds are fixed. */
public final class ModelTest {
    private static final int OBJECTS = 800;
    private static final int ROUNDS = 4;
    private static final int RUNS = 3;

    private final Due due = new Due();
    private final Random random;
    private final ParallelUndo x = new ParallelUndo();
    private final Model m = new Model();
    private final String name;

    private static long falls;
    private static long waits;
    private static long undone;
    private static long failed;
    private static int mostTurns;
    private static int mostConflicts;

    private ModelTest(int seed) {
        random = new Random(seed);
        name = "object " + seed;
    }

    public static void main(String[] args) {
        for (int seed = 0; seed < OBJECTS; seed++) {
            ModelTest t = new ModelTest(seed);
            t.live();
            if (!t.due.allRight()) {
                t.due.close("ModelTest");
            }
        }
        ModelTest row = new ModelTest(OBJECTS);
        row.liveInARow();
        if (!row.due.allRight() || mostConflicts < 113) {
            row.due.close("ModelTest");
            System.exit(1);
        }
        System.out.println("ModelTest: " + falls + " falls, " + waits + " runs given up, " + undone + " undone, "
            + failed + " failed, at most " + mostTurns + " turns and " + mostConflicts + " conflicts in a run");
        if (falls == 0 || waits == 0 || undone == 0 || failed == 0) {
            System.out.println("ModelTest: the runs do not reach all that they should");
            System.exit(1);
        }
    }

    private void live() {
        askAll();
        for (int round = 0; round < ROUNDS; round++) {
            change();
            if (random.nextInt(3) == 0) {
                tellCrowd();
            } else {
                tell();
            }
            for (int i = 0; i < RUNS; i++) {
                runOnce();
            }
        }
    }

    /*
     * Calls that take their turns one by one, by LEAF 31, while all behind them wait for the one whose turn it is and are
     * woken when that ends: of the blocks that can be told in a few lines, the one with the most CONFLICTS found.
     */
    private void liveInARow() {
        for (int c = 0; c < 16; c++) {
            same("call", x.call(), m.call());
            if (c == 0) {
                for (int i = 0; i < 11; i++) {
                    both(c, 0, 2, 0, 1);
                }
                both(c, 2, 2, 3, 31);
                continue;
            }
            both(c, 1, 0, 3, 31);
            both(c, 1, 1, 0, 0);
            both(c, 0, 2, 0, c);
            both(c, 2, 2, 3, c);
            both(c, 6, 0, 2, 12);
            both(c, 0, 2, 0, c + 1);
            both(c, 2, 2, 3, 31);
            for (int i = 0; i < 5; i++) {
                both(c, 0, 1, 0, 1);
            }
        }
        due.is(name + " bound 100", x.bound(100), m.bound(100));
        for (int seed = 63400; seed < 63440; seed++) {
            for (int k = 0; k < 32; k++) {
                due.is(name + " leaf " + k, x.leaf(k, 0), m.leaf(k, 0));
            }
            same("run(4, " + seed + ")", x.run(4, seed), m.run(4, seed));
            askAll();
            mostTurns = Math.max(mostTurns, x.told(0));
            mostConflicts = Math.max(mostConflicts, x.conflicts());
        }
    }

    private void both(int c, int kind, int r, int s, long v) {
        same("act(" + c + ", " + kind + ", " + r + ", " + s + ", " + v + ")",
            x.act(c, kind, r, s, v), m.act(c, kind, r, s, v));
    }

    private void change() {
        if (random.nextInt(3) == 0) {
            same("clear", x.clear(), m.clear());
        }
        int b = random.nextInt(3) == 0 ? random.nextInt(104) - 1 : 1 + random.nextInt(5);
        due.is(name + " bound " + b, x.bound(b), m.bound(b));
        int k = random.nextInt(36) - 2;
        long v = number();
        due.is(name + " leaf " + k, x.leaf(k, v), m.leaf(k, v));
    }

    private void tell() {
        int calls = 1 + random.nextInt(17);
        int spread = 1 + random.nextInt(4);
        int length = 1 + random.nextInt(13);
        for (int i = 0; i < calls; i++) {
            int c = x.call();
            same("call", c, m.call());
            int acts = random.nextInt(length + 1);
            for (int a = 0; a < acts; a++) {
                tellAct(random.nextInt(12) == 0 ? random.nextInt(20) - 2 : c, spread);
            }
        }
    }

    /** Calls that all read the same LEAVES and write one late: these wait and are undone most. */
    private void tellCrowd() {
        same("clear", x.clear(), m.clear());
        int spread = 1 + random.nextInt(12);
        boolean deep = random.nextBoolean();
        if (deep) {
            due.is(name + " bound 100", x.bound(100), m.bound(100));
        }
        for (int c = 0; c < 16; c++) {
            same("call", x.call(), m.call());
            int reads = 6 + random.nextInt(6);
            for (int i = 0; i < reads; i++) {
                int k = i % spread;
                same("read", x.act(c, 1, i % 4, 0, k), m.act(c, 1, i % 4, 0, k));
            }
            int k = random.nextInt(spread);
            same("write", x.act(c, 2, 1, 0, k), m.act(c, 2, 1, 0, k));
        }
    }

    private void tellAct(int c, int spread) {
        int[] often = {1, 1, 1, 2, 2, 2, 0, 3, 4, 5, 6, 7, 8};
        int kind = random.nextInt(20) == 0 ? random.nextInt(12) - 1 : often[random.nextInt(often.length)];
        boolean second = kind >= 1 && kind <= 6;
        int r = random.nextInt(25) == 0 ? random.nextInt(7) - 1 : random.nextInt(4);
        int s = second ? random.nextInt(4) : random.nextInt(25) == 0 ? random.nextInt(6) - 1 : 0;
        long v = 0;
        if (kind == 0) {
            v = number();
        } else if (kind <= 2) {
            v = random.nextInt(9) == 0 ? number() : random.nextInt(spread);
        } else if (kind == 6) {
            v = random.nextInt(6) == 0 ? random.nextInt(15) - 1 : 1 + random.nextInt(2);
        } else if (random.nextInt(30) == 0) {
            v = number();
        }
        both(c, kind, r, s, v);
    }

    private long number() {
        switch (random.nextInt(6)) {
            case 0: return random.nextLong();
            case 1: return random.nextBoolean() ? Long.MIN_VALUE : Long.MAX_VALUE;
            default: return random.nextInt(9) - 4;
        }
    }

    private void runOnce() {
        int w = random.nextInt(12) == 0 ? random.nextInt(8) - 1 : 1 + random.nextInt(4);
        int seed = random.nextInt(3) == 0 ? random.nextInt(100) : random.nextInt();
        long[] want = new long[32];
        for (int k = 0; k < 32; k++) {
            want[k] = m.inOrder(k);
            same("inOrder(" + k + ")", x.inOrder(k), want[k]);
        }
        int turns = x.run(w, seed);
        same("run(" + w + ", " + seed + ")", turns, m.run(w, seed));
        if (turns != ParallelUndo.NONE) {
            for (int k = 0; k < 32; k++) {
                same("at(" + k + ") as in order", x.at(k), want[k]);
            }
        }
        askAll();
        falls += x.told(1);
        undone += x.told(3);
        waits += x.told(4);
        mostTurns = Math.max(mostTurns, x.told(0));
        mostConflicts = Math.max(mostConflicts, x.conflicts());
    }

    /** Every question of the face, which the class answers the same beyond its 512th call. */
    private void askAll() {
        for (int k = -2; k < 35; k++) {
            same("at(" + k + ")", x.at(k), m.at(k));
        }
        for (int what = -2; what < 10; what++) {
            same("told(" + what + ")", x.told(what), m.told(what));
        }
        same("events()", x.events(), m.events());
        for (int i = -1; i <= x.events(); i++) {
            for (int what = -1; what < 3; what++) {
                same("event(" + i + ", " + what + ")", x.event(i, what), m.event(i, what));
            }
        }
        same("conflicts()", x.conflicts(), m.conflicts());
        for (int i = -1; i <= x.conflicts(); i++) {
            for (int what = -1; what < 3; what++) {
                same("conflict(" + i + ", " + what + ")", x.conflict(i, what), m.conflict(i, what));
            }
        }
        for (int c = -1; c < 17; c++) {
            failed += x.of(c, 2) == 1 ? 1 : 0;
            for (int what = -1; what < 7; what++) {
                same("of(" + c + ", " + what + ")", x.of(c, what), m.of(c, what));
            }
        }
    }

    private void same(String what, long got, long want) {
        due.is(name + " " + what, got, want);
    }
}
