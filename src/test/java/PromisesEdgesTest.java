import java.lang.reflect.Field;
import java.lang.reflect.Method;
import java.util.ArrayList;
import java.util.List;
import java.util.function.Supplier;

/**
 * The boundary cases of promises 1 to 15: of each the last input that is taken and the first one that is refused, on
 * both sides where there are two; and behind a refused call that nothing has changed, now or in what comes later.
 */
public final class PromisesEdgesTest extends Telling {
    private interface Asking {
        long of(ParallelUndo x);
    }

    private static final int[] FAR = {MIN, MIN + 1, -1000, 1000, MAX - 1, MAX};
    private static final long[] LONGS = {Long.MIN_VALUE, -(1L << 32), -33, -1, 0, 1, 12, 13, 32, 1L << 32,
        (1L << 32) + 1, Long.MAX_VALUE};
    private static final int UNDO_SEED = Turns.seedFor(2, UNDO_TURNS);

    public static void main(String[] args) {
        aheadOfAnyRun();
        callIsRefusedAt16();
        actIsRefusedAt12();
        actOfNoSuchCall();
        actOfNoSuchKind();
        actOfNoSuchRegister();
        actOfNoSuchSecondRegister();
        actOfNoSuchValue();
        clearCounts();
        clearIsOfCallsAlone();
        leafOfNoSuchNumber();
        leafIsFromNowOn();
        boundOfNoSuchNumber();
        runOfNoSuchWorkers();
        runTakesTheBlockAsItIs();
        atOfNoSuchLeaf();
        inOrderOfNoSuchLeaf();
        inOrderIsOfNow();
        eventOfNoneSuch();
        ofNoSuchCall();
        ofCountsLeavesNotActs();
        conflictOfNoneSuch();
        conflictsAreOfTheFirst200();
        toldOfAnotherWhat();
        due.close("PromisesEdgesTest");
    }

    /** A run that FELL, told of by all answers, then another block with BOUND b that has not run. */
    private static ParallelUndo busy(int b) {
        ParallelUndo x = writerAndReader();
        for (int k = 0; k < 32; k++) {
            x.leaf(k, 50 + k);
        }
        x.bound(1);
        x.run(2, UNDO_SEED);
        x.bound(b);
        x.clear();
        add(x, a(SET, 0, 0, 8), a(WRITE, 0, 1, 3));
        add(x, a(READ, 0, 1, 3), a(EVENT, 0, 0, 0));
        x.leaf(31, -31);
        return x;
    }

    private static ParallelUndo full() {
        ParallelUndo x = new ParallelUndo();
        for (int c = 0; c < 16; c++) {
            x.call();
            for (int i = 0; i < 12; i++) {
                x.act(c, i % 2 == 0 ? READ : WRITE, 0, 3, (c + i) % 32);
            }
        }
        return x;
    }

    private static final List<Supplier<ParallelUndo>> STATES =
        List.of(ParallelUndo::new, () -> busy(1), () -> busy(2), PromisesEdgesTest::full);

    private static void refusedEverywhere(String name, long want, Asking call) {
        for (int i = 0; i < STATES.size(); i++) {
            refused(name + " in state " + i, want, STATES.get(i), call);
        }
    }

    /** Answers as it should, and leaves the object as one that was never asked. */
    private static void refused(String name, long want, Supplier<ParallelUndo> state, Asking call) {
        ParallelUndo x = state.get();
        due.is(name, call.of(x), want);
        same(name + ", all answers", answers(x), answers(state.get()));
        same(name + ", what comes later", later(x), later(state.get()));
    }

    private static void same(String name, List<Long> got, List<Long> want) {
        due.is(name + ": how many", got.size(), want.size());
        for (int i = 0; i < Math.min(got.size(), want.size()); i++) {
            due.is(name + ", number " + i, got.get(i), want.get(i));
        }
    }

    private static List<Long> answers(ParallelUndo x) {
        List<Long> all = new ArrayList<>();
        for (int k = 0; k < 32; k++) {
            all.add(x.at(k));
        }
        all.add(x.inOrder(3));
        tally(x, all);
        for (int c = 0; c < 2; c++) {
            for (int what = 0; what < 6; what++) {
                all.add((long) x.of(c, what));
            }
        }
        return all;
    }

    private static void tally(ParallelUndo x, List<Long> all) {
        for (int what = 0; what < 8; what++) {
            all.add((long) x.told(what));
        }
        all.add((long) x.events());
        for (int i = 0; i < x.events(); i++) {
            all.add(x.event(i, 0));
            all.add(x.event(i, 1));
        }
        all.add((long) x.conflicts());
        for (int i = 0; i < x.conflicts(); i++) {
            all.add((long) x.conflict(i, 0));
            all.add((long) x.conflict(i, 1));
        }
    }

    /** The CALLS, ACTS and BOUND show in what a run does, and in the numbers that call() and act() give. */
    private static List<Long> later(ParallelUndo x) {
        List<Long> all = new ArrayList<>();
        all.add((long) x.run(2, UNDO_SEED));
        tally(x, all);
        for (int c = 0; c <= 16; c++) {
            all.add((long) x.act(c, EVENT, 0, 0, 0));
        }
        all.add((long) x.call());
        all.add((long) x.run(1, 0));
        all.add((long) x.events());
        all.add((long) x.told(5));
        all.add((long) x.clear());
        return all;
    }

    /** 'no CALLS', '0 ahead of any': CALLS that have not run are not told of. */
    private static void aheadOfAnyRun() {
        ParallelUndo x = full();
        x.inOrder(0);
        x.run(0, 1);
        x.run(5, 1);
        told("ahead of any run", x, 0, 0, 0, 0, 0, 0, 0, 0);
        events("ahead of any run", x);
        conflicts("ahead of any run", x);
        due.is("ahead of any run: of(0, 0)", x.of(0, 0), NONE);
        due.is("ahead of any run: of(15, 5)", x.of(15, 5), NONE);
        due.is("ahead of any run: event(0, 1)", x.event(0, 1), 0);
    }

    /** 'NONE: 16 are there' */
    private static void callIsRefusedAt16() {
        ParallelUndo x = new ParallelUndo();
        for (int c = 0; c < 16; c++) {
            due.is("call()", x.call(), c);
        }
        due.is("call() where 16 are there", x.call(), NONE);
        refused("call() where 16 are there", NONE, PromisesEdgesTest::full, ParallelUndo::call);
        due.is("clear() of 16", x.clear(), 16);
        for (int c = 0; c < 16; c++) {
            due.is("call() behind clear()", x.call(), c);
        }
        due.is("call() where 16 are there again", x.call(), NONE);
    }

    /** 'NONE: .. 12 are there', of each call by itself. */
    private static void actIsRefusedAt12() {
        for (int c = 0; c < 16; c += 15) {
            int call = c;
            for (int kind = 0; kind <= 8; kind++) {
                int k = kind;
                refused("a 13th act of " + c + ", kind " + kind, NONE, PromisesEdgesTest::full,
                    x -> x.act(call, k, 0, 0, k == PASS ? 1 : 0));
            }
        }
        ParallelUndo x = full();
        x.clear();
        x.call();
        for (int i = 1; i <= 12; i++) {
            due.is("act behind clear()", x.act(0, EVENT, 0, 0, 0), i);
        }
        due.is("a 13th act behind clear()", x.act(0, EVENT, 0, 0, 0), NONE);
    }

    private static void actOfNoSuchCall() {
        int[] wrong = {-1, 16, 17};
        for (int c : wrong) {
            refusedEverywhere("act of call " + c, NONE, x -> x.act(c, SET, 0, 0, 1));
        }
        for (int c : FAR) {
            refusedEverywhere("act of call " + c, NONE, x -> x.act(c, SET, 0, 0, 1));
        }
        refused("act of call 0 of none", NONE, ParallelUndo::new, x -> x.act(0, SET, 0, 0, 1));
        refused("act of call 2 of two", NONE, () -> busy(1), x -> x.act(2, SET, 0, 0, 1));
        due.is("act of call 1 of two", busy(1).act(1, SET, 0, 0, 1), 3);
        due.is("act of call 0 of two", busy(1).act(0, SET, 0, 0, 1), 3);
    }

    private static void actOfNoSuchKind() {
        int[] wrong = {-1, 9, 10, MIN, MAX};
        for (int kind : wrong) {
            refusedEverywhere("kind " + kind, NONE, x -> x.act(0, kind, 0, 0, 0));
            refusedEverywhere("kind " + kind + " with 1", NONE, x -> x.act(0, kind, 0, 0, 1));
        }
        due.is("kind 0", busy(1).act(0, 0, 0, 0, 0), 3);
        due.is("kind 8", busy(1).act(0, 8, 0, 0, 0), 3);
    }

    private static long fitting(int kind) {
        return kind == PASS ? 1 : 0;
    }

    private static boolean hasSecond(int kind) {
        return kind == READ || kind == WRITE || kind == PLUS || kind == MINUS || kind == TIMES || kind == PASS;
    }

    private static void actOfNoSuchRegister() {
        int[] wrong = {-1, 4, MIN, MAX};
        for (int kind = 0; kind <= 8; kind++) {
            int k = kind;
            for (int r : wrong) {
                refused("kind " + k + ", r " + r, NONE, () -> busy(1), x -> x.act(0, k, r, 0, fitting(k)));
            }
            for (int r = 0; r <= 3; r++) {
                due.is("kind " + k + ", r " + r, busy(1).act(0, k, r, 0, fitting(k)), 3);
            }
        }
    }

    /** 's are 0 .. 3 (of kinds that have none: 0)' */
    private static void actOfNoSuchSecondRegister() {
        int[] all = {MIN, -1, 0, 1, 2, 3, 4, MAX};
        for (int kind = 0; kind <= 8; kind++) {
            int k = kind;
            for (int s : all) {
                if (s >= 0 && s <= (hasSecond(k) ? 3 : 0)) {
                    due.is("kind " + k + ", s " + s, busy(1).act(0, k, 3, s, fitting(k)), 3);
                } else {
                    refused("kind " + k + ", s " + s, NONE, () -> busy(1), x -> x.act(0, k, 3, s, fitting(k)));
                }
            }
        }
    }

    /** 'v of 0, 1, 2 any, of 6 1 .. 12, else 0' */
    private static void actOfNoSuchValue() {
        for (int kind = 0; kind <= 8; kind++) {
            int k = kind;
            for (long v : LONGS) {
                if (k <= WRITE || (k == PASS ? v >= 1 && v <= 12 : v == 0)) {
                    due.is("kind " + k + ", v " + v, busy(1).act(0, k, 0, 0, v), 3);
                } else {
                    refused("kind " + k + ", v " + v, NONE, () -> busy(1), x -> x.act(0, k, 0, 0, v));
                }
            }
        }
        for (int v = 1; v <= 12; v++) {
            due.is("kind 6, v " + v, busy(1).act(0, PASS, 0, 0, v), 3);
        }
    }

    private static void clearCounts() {
        ParallelUndo x = new ParallelUndo();
        for (int n = 0; n <= 16; n++) {
            for (int c = 0; c < n; c++) {
                x.call();
            }
            due.is("clear() of " + n, x.clear(), n);
            due.is("clear() behind clear()", x.clear(), 0);
        }
    }

    /** LEAVES, BOUND and the latest run stay as they are. */
    private static void clearIsOfCallsAlone() {
        ParallelUndo x = busy(1);
        List<Long> were = answers(x);
        due.is("clear()", x.clear(), 2);
        List<Long> are = answers(x);
        due.is("inOrder(3) is without the CALLS now", are.get(32), x.at(3));
        are.set(32, were.get(32));
        same("clear()", are, were);
        add(x, a(SET, 0, 0, 8), a(WRITE, 0, 1, 3));
        add(x, a(READ, 0, 1, 3), a(EVENT, 0, 0, 0));
        same("the same CALLS behind clear()", later(x), later(busy(1)));
    }

    private static void leafOfNoSuchNumber() {
        int[] wrong = {-1, 32, 33, MIN, MAX};
        for (int k : wrong) {
            refusedEverywhere("leaf(" + k + ")", 0, x -> x.leaf(k, 12345) ? 1 : 0);
        }
        for (int k = 0; k < 32; k++) {
            ParallelUndo x = busy(1);
            due.is("leaf(" + k + ")", x.leaf(k, 12345), true);
            for (int other = 0; other < 32; other++) {
                due.is("leaf(" + k + "): at(" + other + ")", x.at(other), other == k ? 12345 : busy(1).at(other));
            }
        }
    }

    /** 'A LEAF is v from now on': over what a run wrote, and for the next run. */
    private static void leafIsFromNowOn() {
        ParallelUndo x = alone(a(READ, 0, 3, 0), a(EVENT, 0, 0, 0), a(SET, 1, 0, 6), a(WRITE, 1, 3, 0));
        due.is("behind a run: at(0)", x.at(0), 6);
        x.leaf(0, 7);
        due.is("behind leaf(): at(0)", x.at(0), 7);
        x.leaf(0, 8);
        due.is("behind leaf() again: at(0)", x.at(0), 8);
        events("the latest run is as it was", x, 0);
        x.run(1, 0);
        events("the next run reads it", x, 8);
        due.is("the next run writes it", x.at(0), 6);
    }

    private static void boundOfNoSuchNumber() {
        int[] wrong = {0, 101, -1, -100, 102, MIN, MAX};
        for (int b : wrong) {
            refusedEverywhere("bound(" + b + ")", 0, x -> x.bound(b) ? 1 : 0);
        }
        for (int b = 1; b <= 100; b++) {
            ParallelUndo x = busy(1);
            due.is("bound(" + b + ")", x.bound(b), true);
            due.is("bound(" + b + ") counts", x.run(2, UNDO_SEED), b == 1 ? 11 : 14);
        }
    }

    private static void runOfNoSuchWorkers() {
        int[] wrong = {0, 5, -1, -4, 6, MIN, MAX};
        for (int w : wrong) {
            refusedEverywhere("run(" + w + ", 0)", NONE, x -> x.run(w, 0));
            refusedEverywhere("run(" + w + ", -1)", NONE, x -> x.run(w, -1));
        }
        for (int w = 1; w <= 4; w++) {
            due.is("run(" + w + ", 0)", busy(2).run(w, 0) >= 10, true);
            due.is("run(" + w + ", 0) of no CALLS", new ParallelUndo().run(w, 0), 0);
        }
    }

    /** The block stays for the next run, which takes the LEAVES as this one left them. */
    private static void runTakesTheBlockAsItIs() {
        ParallelUndo x = alone(a(READ, 0, 3, 0), a(SET, 1, 0, 1), a(PLUS, 0, 1, 0), a(WRITE, 0, 3, 0));
        x.run(1, 0);
        due.is("two runs: at(0)", x.at(0), 2);
        add(x, a(READ, 0, 3, 0), a(PLUS, 0, 0, 0), a(WRITE, 0, 3, 0));
        due.is("a call more: turns", x.run(1, 0), (1 + 4 + 2) + (1 + 3 + 2));
        due.is("a call more: at(0)", x.at(0), 6);
        due.is("a call more: told(7)", x.told(7), 2);
        x.act(1, EVENT, 0, 0, 0);
        x.run(1, 0);
        events("an ACT more", x, 14);
        due.is("clear() behind them", x.clear(), 2);
    }

    private static void atOfNoSuchLeaf() {
        int[] wrong = {-1, 32, MIN, MAX};
        for (int k : wrong) {
            refusedEverywhere("at(" + k + ")", 0, x -> x.at(k));
        }
        ParallelUndo x = busy(1);
        due.is("at(0)", x.at(0), 50);
        due.is("at(31)", x.at(31), -31);
    }

    private static void inOrderOfNoSuchLeaf() {
        int[] wrong = {-1, 32, MIN, MAX};
        for (int k : wrong) {
            refusedEverywhere("inOrder(" + k + ")", 0, x -> x.inOrder(k));
        }
        ParallelUndo x = busy(1);
        due.is("inOrder(0)", x.inOrder(0), 50);
        due.is("inOrder(31)", x.inOrder(31), -31);
        for (int k = 0; k < 32; k++) {
            int leaf = k;
            refused("inOrder(" + k + ") changes nothing", k == 3 ? 8 : busy(1).at(k), () -> busy(1),
                y -> y.inOrder(leaf));
        }
    }

    /** '.. if the CALLS ran IN ORDER now': by the CALLS and LEAVES of now, not those of the latest run. */
    private static void inOrderIsOfNow() {
        ParallelUndo x = new ParallelUndo();
        due.is("no CALLS", x.inOrder(0), 0);
        x.leaf(0, 3);
        due.is("no CALLS, another LEAF", x.inOrder(0), 3);
        add(x, a(READ, 0, 3, 0), a(PLUS, 0, 0, 0));
        due.is("it does not write yet", x.inOrder(0), 3);
        x.act(0, WRITE, 0, 3, 0);
        due.is("it writes", x.inOrder(0), 6);
        x.run(1, 0);
        due.is("behind a run", x.inOrder(0), 12);
        x.leaf(0, 100);
        due.is("behind leaf()", x.inOrder(0), 200);
        add(x, a(READ, 0, 3, 0), a(SET, 1, 0, 1), a(PLUS, 0, 1, 0), a(WRITE, 0, 3, 0));
        due.is("what a call writes the next one sees", x.inOrder(0), 201);
        x.clear();
        due.is("behind clear()", x.inOrder(0), 100);
    }

    /** '0: none such, another what' */
    private static void eventOfNoneSuch() {
        ParallelUndo x = new ParallelUndo();
        x.call();
        add(x, a(SET, 0, 0, 5), a(EVENT, 0, 0, 0), a(SET, 0, 0, -6), a(EVENT, 0, 0, 0));
        x.run(1, 0);
        due.is("event(0, 0)", x.event(0, 0), 5);
        due.is("event(0, 1)", x.event(0, 1), 1);
        due.is("event(1, 0)", x.event(1, 0), -6);
        due.is("event(1, 1)", x.event(1, 1), 1);
        int[] noSuch = {-1, 2, 3, MIN, MAX};
        for (int i : noSuch) {
            due.is("event(" + i + ", 0)", x.event(i, 0), 0);
            due.is("event(" + i + ", 1)", x.event(i, 1), 0);
            refusedEverywhere("event(" + i + ", 1)", 0, y -> y.event(i, 1));
        }
        int[] noWhat = {-1, 2, MIN, MAX};
        for (int what : noWhat) {
            due.is("event(1, " + what + ")", x.event(1, what), 0);
            refusedEverywhere("event(0, " + what + ")", 0, y -> y.event(0, what));
        }
    }

    /** 'NONE: no such call in it, another what' */
    private static void ofNoSuchCall() {
        ParallelUndo x = writerAndReader();
        x.run(1, 0);
        x.call();
        int[] noSuch = {-1, 2, 3, 15, 16, MIN, MAX};
        for (int c : noSuch) {
            for (int what = 0; what < 6; what++) {
                due.is("of(" + c + ", " + what + ")", x.of(c, what), NONE);
            }
            refusedEverywhere("of(" + c + ", 0)", NONE, y -> y.of(c, 0));
        }
        int[] noWhat = {-1, 6, 7, MIN, MAX};
        for (int what : noWhat) {
            due.is("of(0, " + what + ")", x.of(0, what), NONE);
            due.is("of(1, " + what + ")", x.of(1, what), NONE);
            refusedEverywhere("of(0, " + what + ")", NONE, y -> y.of(0, what));
        }
        of("the first call", x, 0, 1, 2, 0, 0, 1, 0);
        of("the last call", x, 1, 1, 2, 0, 1, 0, 0);
        x.run(1, 0);
        of("the call that is in it by now", x, 2, 1, 0, 0, 0, 0, 2);
    }

    /** 'how many LEAVES it kept .. wrote': a LEAF that it read or wrote more than once is one. */
    private static void ofCountsLeavesNotActs() {
        ParallelUndo x = alone(a(READ, 0, 3, 4), a(READ, 1, 3, 36), a(WRITE, 0, 3, 5), a(WRITE, 1, 3, 5),
            a(WRITE, 1, 3, -27), a(READ, 0, 3, 5), a(WRITE, 0, 3, 4));
        of("leaves, not acts", x, 0, 1, 7, 0, 1, 2, 0);
    }

    /** '-2: none such, another what' */
    private static void conflictOfNoneSuch() {
        ParallelUndo x = writerAndReader();
        x.run(2, UNDO_SEED);
        due.is("conflict(0, 0)", x.conflict(0, 0), 1);
        due.is("conflict(0, 1)", x.conflict(0, 1), 0);
        int[] noSuch = {-1, 1, 199, 200, 201, MIN, MAX};
        for (int i : noSuch) {
            due.is("conflict(" + i + ", 0)", x.conflict(i, 0), -2);
            due.is("conflict(" + i + ", 1)", x.conflict(i, 1), -2);
            refusedEverywhere("conflict(" + i + ", 0)", -2, y -> y.conflict(i, 0));
        }
        int[] noWhat = {-1, 2, MIN, MAX};
        for (int what : noWhat) {
            due.is("conflict(0, " + what + ")", x.conflict(0, what), -2);
            refusedEverywhere("conflict(0, " + what + ")", -2, y -> y.conflict(0, what));
        }
        x.clear();
        x.run(2, UNDO_SEED);
        due.is("conflict(0, 0) of a run without", x.conflict(0, 0), -2);
    }

    /*
     * 'CONFLICT i (of the first 200)'. No block was found that has so many (long searches came to some 140), so that
     * they are noted here by hand, in the object's own record, and asked for by the face.
     */
    private static void conflictsAreOfTheFirst200() {
        ParallelUndo x = writerAndReader();
        x.run(1, 0);
        for (int i = 0; i < 199; i++) {
            noteConflict(x, i % 16, i % 15 - 1);
        }
        due.is("conflict(198, 0) of 199", x.conflict(198, 0), 198 % 16);
        due.is("conflict(199, 0) of 199", x.conflict(199, 0), -2);
        noteConflict(x, 11, 7);
        due.is("200 CONFLICTS", x.conflicts(), 200);
        due.is("conflict(199, 0) of 200", x.conflict(199, 0), 11);
        due.is("conflict(199, 1) of 200", x.conflict(199, 1), 7);
        due.is("conflict(200, 0) of 200", x.conflict(200, 0), -2);
        noteConflict(x, 12, 8);
        noteConflict(x, 13, 9);
        due.is("202 CONFLICTS are counted", x.conflicts(), 202);
        due.is("conflict(199, 0) of 202", x.conflict(199, 0), 11);
        due.is("conflict(199, 1) of 202", x.conflict(199, 1), 7);
        for (int i = 200; i <= 203; i++) {
            due.is("conflict(" + i + ", 0) of 202", x.conflict(i, 0), -2);
            due.is("conflict(" + i + ", 1) of 202", x.conflict(i, 1), -2);
        }
        for (int i = 0; i < 199; i++) {
            due.is("conflict(" + i + ", 0) of 202", x.conflict(i, 0), i % 16);
            due.is("conflict(" + i + ", 1) of 202", x.conflict(i, 1), i % 15 - 1);
        }
        x.run(2, UNDO_SEED);
        conflicts("the next run", x, 1, 0);
    }

    private static void noteConflict(ParallelUndo x, int call, int other) {
        try {
            Object workers = inside(x, "latest");
            Object record = inside(workers, "conflicts");
            Method note = record.getClass().getDeclaredMethod("note", int.class, int.class);
            note.setAccessible(true);
            note.invoke(record, call, other);
        } catch (ReflectiveOperationException e) {
            throw new IllegalStateException("the class keeps its CONFLICTS elsewhere by now", e);
        }
    }

    private static Object inside(Object outer, String name) throws ReflectiveOperationException {
        Field f = outer.getClass().getDeclaredField(name);
        f.setAccessible(true);
        return f.get(outer);
    }

    /** 'NONE: another what' */
    private static void toldOfAnotherWhat() {
        int[] wrong = {-1, 8, 9, MIN, MAX};
        for (int what : wrong) {
            refusedEverywhere("told(" + what + ")", NONE, x -> x.told(what));
        }
        told("told of a run that FELL", busy(1), 11, 1, 2, 1, 0, 8, 1, 2);
    }
}
