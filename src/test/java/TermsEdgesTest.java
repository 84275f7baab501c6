/** The boundary cases that the sections 'What it is' and 'Terms' name, a test for each sentence. */
public final class TermsEdgesTest extends Telling {
    public static void main(String[] args) {
        the512thCallIsAnswered();
        leavesAre0To31();
        leavesAreLongs();
        callsAre16AtMost();
        actsAre12AtMost();
        all192ActsAreDone();
        all12ActsAreDoneInOrder();
        registersAre0To3();
        registersAre0AtABeginning();
        registersAre0InARunAnew();
        plusGoesRound();
        minusGoesRound();
        timesGoesRound();
        leafOfAReadGoesRound();
        leafOfAWriteGoesRound();
        passesOnlyWhereBelow();
        passesOne();
        passesAllButOne();
        passesAllThatAreLeft();
        passesMoreThanAreLeft();
        passesWhereNoneIsLeft();
        passedActsAreNotDone();
        failsOnlyBelow0();
        failEndsInItsStep();
        failAsTheLastAct();
        failedCallIsUndoneByWhatItRead();
        failedCallLosesWhatItHad();
        callWithoutActs();
        sixteenCallsWithoutActs();
        callWhoseActsWereRefused();
        blockWithoutCalls();
        unwrittenLeafIsAsBefore();
        eachKindInOrder();
        due.close("TermsEdgesTest");
    }

    /*
     * 'An object is used for at most 512 calls': 16 call(), 192 act() and 303 run() are 511, at(0) is the 512th.
     * Each call of the block adds 1 to LEAF 0.
     */
    private static void the512thCallIsAnswered() {
        ParallelUndo x = new ParallelUndo();
        for (int c = 0; c < 16; c++) {
            x.call();
        }
        for (int c = 0; c < 16; c++) {
            x.act(c, READ, 0, 3, 0);
            x.act(c, SET, 1, 0, 1);
            x.act(c, PLUS, 0, 1, 0);
            for (int i = 3; i < 11; i++) {
                x.act(c, SET, 2, 0, i);
            }
            due.is("the 12th act of " + c, x.act(c, WRITE, 0, 3, 0), 12);
        }
        int turns = x.run(4, 7);
        for (int i = 1; i < 303; i++) {
            due.is("run " + i + " takes its turns", x.run(4, 7), turns);
        }
        due.is("the 512th call", x.at(0), 303 * 16);
    }

    /** '0 .. 31' */
    private static void leavesAre0To31() {
        ParallelUndo x = new ParallelUndo();
        due.is("leaf(0)", x.leaf(0, 10), true);
        due.is("leaf(31)", x.leaf(31, 20), true);
        due.is("leaf(-1)", x.leaf(-1, 30), false);
        due.is("leaf(32)", x.leaf(32, 40), false);
        due.is("at(0)", x.at(0), 10);
        due.is("at(31)", x.at(31), 20);
        due.is("at(-1)", x.at(-1), 0);
        due.is("at(32)", x.at(32), 0);
        due.is("inOrder(0)", x.inOrder(0), 10);
        due.is("inOrder(31)", x.inOrder(31), 20);
        due.is("inOrder(-1)", x.inOrder(-1), 0);
        due.is("inOrder(32)", x.inOrder(32), 0);
        for (int k = 1; k < 31; k++) {
            due.is("at(" + k + ") is as it was", x.at(k), 0);
        }
    }

    /** 'are longs' */
    private static void leavesAreLongs() {
        ParallelUndo x = new ParallelUndo();
        x.leaf(0, Long.MIN_VALUE);
        x.leaf(31, Long.MAX_VALUE);
        add(x, a(READ, 0, 3, 0), a(EVENT, 0, 0, 0), a(READ, 1, 3, 31), a(EVENT, 1, 0, 0),
            a(WRITE, 0, 3, 31), a(WRITE, 1, 3, 0));
        x.run(1, 0);
        events("leaves are longs", x, Long.MIN_VALUE, Long.MAX_VALUE);
        due.is("the greatest is in LEAF 0", x.at(0), Long.MAX_VALUE);
        due.is("the least is in LEAF 31", x.at(31), Long.MIN_VALUE);
    }

    /** 'CALLS 0, 1, .., 16 at most': each of the 16 writes its own LEAF and one that is common to all. */
    private static void callsAre16AtMost() {
        ParallelUndo x = new ParallelUndo();
        for (int c = 0; c < 16; c++) {
            due.is("call()", add(x, a(SET, 0, 0, c + 1), a(WRITE, 0, 3, c), a(WRITE, 0, 3, 31)), c);
        }
        due.is("a 17th call", x.call(), NONE);
        due.is("an act of a 17th call", x.act(16, SET, 0, 0, 0), NONE);
        for (int w = 1; w <= 4; w++) {
            x.leaf(31, 0);
            x.run(w, w);
            for (int c = 0; c < 16; c++) {
                due.is("at(" + c + ")", x.at(c), c + 1);
                due.is("of(" + c + ", 0)", x.of(c, 0), 1);
                due.is("of(" + c + ", 5)", x.of(c, 5), 0);
            }
            due.is("LEAF 31 is of the greatest call", x.at(31), 16);
            due.is("of a 17th call", x.of(16, 0), NONE);
            due.is("16 CALLS", x.told(7), 16);
            due.is("they are one GROUP", x.told(6), 1);
        }
    }

    /** 'a row of ACTS, 12 at most': the 12th is done, the 13th, which was refused, is not. */
    private static void actsAre12AtMost() {
        ParallelUndo x = new ParallelUndo();
        x.call();
        x.call();
        for (int i = 1; i <= 12; i++) {
            due.is("act " + i, x.act(0, WRITE, 0, 0, i), i);
        }
        due.is("a 13th act", x.act(0, WRITE, 0, 0, 13), NONE);
        due.is("a 14th act", x.act(0, EVENT, 0, 0, 0), NONE);
        due.is("the next call's row is not touched", x.act(1, READ, 0, 0, 20), 1);
        due.is("12 acts: turns", x.run(1, 0), (1 + 12 + 2) + (1 + 1 + 2));
        of("12 acts", x, 0, 1, 12, 0, 0, 12, 0);
        of("12 acts, the next call", x, 1, 1, 1, 0, 1, 0, 1);
        due.is("12 acts: no EVENT", x.events(), 0);
    }

    private static void all192ActsAreDone() {
        ParallelUndo x = new ParallelUndo();
        for (int c = 0; c < 16; c++) {
            x.call();
        }
        for (int i = 0; i < 12; i++) {
            for (int c = 15; c >= 0; c--) {
                due.is("act of " + c, x.act(c, i % 2 == 0 ? EVENT : READ, 0, 0, i % 2 == 0 ? 0 : i), i + 1);
            }
        }
        due.is("192 acts: turns", x.run(1, 0), 16 * (1 + 12 + 2));
        told("192 acts", x, 240, 0, 16, 0, 0, 192, 1, 16);
        due.is("192 acts: events()", x.events(), 96);
        due.is("192 acts: the last EVENT's call", x.event(95, 1), 15);
        due.is("192 acts: the first one's of call 15", x.event(90, 1), 15);
        due.is("192 acts: the last one's of call 14", x.event(89, 1), 14);
        due.is("192 acts: behind the last", x.event(96, 1), 0);
        of("192 acts", x, 15, 1, 12, 0, 6, 0, 0);
    }

    /** By inOrder(), and by a block that FELL (turns as UNDO_TURNS, up to the 11th). */
    private static void all12ActsAreDoneInOrder() {
        ParallelUndo x = writerAndReader();
        x.bound(1);
        int c = x.call();
        for (int i = 1; i <= 11; i++) {
            x.act(c, SET, 0, 0, i);
        }
        x.act(c, WRITE, 0, 1, 12);
        due.is("the 12th IN ORDER: inOrder(12)", x.inOrder(12), 11);
        due.is("the 12th IN ORDER: turns", x.run(2, Turns.seedFor(2, UNDO_TURNS)), 11);
        of("the 12th IN ORDER", x, c, 1, 12, 0, 0, 1, 2);
        due.is("the 12th IN ORDER: at(12)", x.at(12), 11);
    }

    /** 'REGISTERS 0 .. 3' */
    private static void registersAre0To3() {
        ParallelUndo x = alone(a(SET, 0, 0, 10), a(SET, 1, 0, 20), a(SET, 2, 0, 30), a(SET, 3, 0, 40),
            a(EVENT, 0, 0, 0), a(EVENT, 1, 0, 0), a(EVENT, 2, 0, 0), a(EVENT, 3, 0, 0),
            a(PLUS, 3, 0, 0), a(PLUS, 0, 3, 0), a(EVENT, 3, 0, 0), a(EVENT, 0, 0, 0));
        events("registers", x, 10, 20, 30, 40, 50, 60);
    }

    /** 'longs, 0 at a call's beginning' */
    private static void registersAre0AtABeginning() {
        ParallelUndo x = new ParallelUndo();
        add(x, a(SET, 0, 0, 1), a(SET, 1, 0, 2), a(SET, 2, 0, 3), a(SET, 3, 0, 4));
        add(x, a(EVENT, 0, 0, 0), a(EVENT, 1, 0, 0), a(EVENT, 2, 0, 0), a(EVENT, 3, 0, 0), a(SET, 0, 0, 7),
            a(SET, 3, 0, 7));
        for (int i = 0; i < 2; i++) {
            x.run(1, 0);
            events("registers at a beginning", x, 0, 0, 0, 0);
        }
    }

    /*
     * 'its REGISTERS and what it read and wrote begin anew'. As UNDO_TURNS, with one ACT more of call 1: 6 w1 ends it,
     * 7, 8 w0 ends 0, 9 .. 12 looks at 0 and 1, 13 .. 15 runs 1 anew, 16 looks at it.
     */
    private static void registersAre0InARunAnew() {
        ParallelUndo x = new ParallelUndo();
        add(x, a(SET, 0, 0, 5), a(WRITE, 0, 1, 3));
        add(x, a(READ, 0, 1, 3), a(EVENT, 1, 0, 0), a(SET, 1, 0, 9));
        int seed = Turns.seedFor(2, 0, 1, 1, 1, 1, 1, 0, 0, 0, 0, 0, 0, 0, 0, 0, 0);
        due.is("a run anew: turns", x.run(2, seed), 16);
        told("a run anew", x, 16, 0, 3, 1, 0, 8, 1, 2);
        events("a run anew", x, 0);
        of("a run anew", x, 1, 2, 3, 0, 1, 0, 0);
    }

    private static void reckons(int kind, long r, long s, long want) {
        ParallelUndo x = alone(a(SET, 0, 0, r), a(SET, 1, 0, s), a(kind, 0, 1, 0), a(EVENT, 0, 0, 0));
        due.is("kind " + kind + " of " + r + " and " + s, x.event(0, 0), want);
    }

    /** '+ - * go round in 64 bits' */
    private static void plusGoesRound() {
        reckons(PLUS, Long.MAX_VALUE, 0, Long.MAX_VALUE);
        reckons(PLUS, Long.MAX_VALUE, 1, Long.MIN_VALUE);
        reckons(PLUS, Long.MIN_VALUE, -1, Long.MAX_VALUE);
        reckons(PLUS, Long.MIN_VALUE, Long.MIN_VALUE, 0);
        reckons(PLUS, Long.MAX_VALUE, Long.MAX_VALUE, -2);
        reckons(PLUS, 0xffffffffL, 1, 0x100000000L);
    }

    private static void minusGoesRound() {
        reckons(MINUS, Long.MIN_VALUE, 0, Long.MIN_VALUE);
        reckons(MINUS, Long.MIN_VALUE, 1, Long.MAX_VALUE);
        reckons(MINUS, Long.MAX_VALUE, -1, Long.MIN_VALUE);
        reckons(MINUS, 0, Long.MIN_VALUE, Long.MIN_VALUE);
        reckons(MINUS, 0x100000000L, 1, 0xffffffffL);
    }

    private static void timesGoesRound() {
        reckons(TIMES, Long.MAX_VALUE, 2, -2);
        reckons(TIMES, Long.MIN_VALUE, -1, Long.MIN_VALUE);
        reckons(TIMES, Long.MIN_VALUE, 2, 0);
        reckons(TIMES, Long.MAX_VALUE, Long.MAX_VALUE, 1);
        reckons(TIMES, 0x100000000L, 0x100000000L, 0);
        reckons(TIMES, 0x100000000L, 0x7fffffffL, 0x7fffffff00000000L);
    }

    /** Of s and v the LEAF '(v + s) modulo 32 (0 and more)'. */
    private static final long[][] ROUND = {
        {0, 0, 0}, {0, 31, 31}, {0, 32, 0}, {0, 33, 1}, {0, 63, 31}, {0, 64, 0},
        {0, -1, 31}, {0, -31, 1}, {0, -32, 0}, {0, -33, 31}, {0, -64, 0},
        {31, 0, 31}, {32, 0, 0}, {-1, 0, 31}, {-1, 1, 0}, {1, -2, 31}, {31, 31, 30},
        {0, Long.MAX_VALUE, 31}, {0, Long.MIN_VALUE, 0}, {Long.MIN_VALUE, 5, 5}, {Long.MAX_VALUE, 0, 31},
        {1, Long.MAX_VALUE, 0}, {2, Long.MAX_VALUE, 1}, {-1, Long.MIN_VALUE, 31}, {-3, Long.MIN_VALUE, 29},
        {Long.MAX_VALUE, Long.MAX_VALUE, 30}, {Long.MIN_VALUE, Long.MIN_VALUE, 0}, {0, 1L << 32, 0},
        {0, (1L << 32) + 7, 7},
    };

    private static void leafOfAReadGoesRound() {
        for (long[] row : ROUND) {
            ParallelUndo x = new ParallelUndo();
            for (int k = 0; k < 32; k++) {
                x.leaf(k, 100 + k);
            }
            add(x, a(SET, 2, 0, row[0]), a(READ, 0, 2, row[1]), a(EVENT, 0, 0, 0));
            x.run(1, 0);
            due.is("a READ by " + row[0] + " and " + row[1], x.event(0, 0), 100 + row[2]);
        }
    }

    private static void leafOfAWriteGoesRound() {
        for (long[] row : ROUND) {
            ParallelUndo x = alone(a(SET, 2, 0, row[0]), a(SET, 0, 0, 7), a(WRITE, 0, 2, row[1]));
            for (int k = 0; k < 32; k++) {
                due.is("a WRITE by " + row[0] + " and " + row[1] + ": at(" + k + ")", x.at(k), k == row[2] ? 7 : 0);
            }
        }
    }

    private static void passes(long r, long s, boolean want) {
        ParallelUndo x = alone(a(SET, 1, 0, r), a(SET, 2, 0, s), a(PASS, 1, 2, 1), a(EVENT, 0, 0, 0));
        due.is(r + " below " + s + " passes", x.events(), want ? 0 : 1);
    }

    /** 'if r is below s' */
    private static void passesOnlyWhereBelow() {
        passes(0, 1, true);
        passes(0, 0, false);
        passes(1, 0, false);
        passes(-1, 0, true);
        passes(0, -1, false);
        passes(Long.MIN_VALUE, Long.MAX_VALUE, true);
        passes(Long.MAX_VALUE, Long.MIN_VALUE, false);
        passes(Long.MIN_VALUE, Long.MIN_VALUE, false);
        passes(Long.MIN_VALUE, 1, true);
        passes(1, Long.MIN_VALUE, false);
        passes(1, 0x100000000L, true);
        ParallelUndo x = alone(a(SET, 1, 0, -4), a(PASS, 1, 1, 1), a(EVENT, 1, 0, 0));
        due.is("a REGISTER is not below itself", x.events(), 1);
    }

    /** A call of 2 ACTS, the second passing over v, with three EVENTS behind: how many are there. */
    private static void passesOver(int v, int eventsLeft) {
        ParallelUndo x = alone(a(SET, 1, 0, 1), a(PASS, 0, 1, v), a(EVENT, 1, 0, 0), a(EVENT, 1, 0, 0),
            a(EVENT, 1, 0, 0));
        String name = "passing over " + v + " of 3";
        due.is(name + ": events()", x.events(), eventsLeft);
        due.is(name + ": TURNS", x.told(0), 1 + 2 + eventsLeft + 2);
        due.is(name + ": ACTS done", x.of(0, 1), 2 + eventsLeft);
        due.is(name + ": ACTS done in all", x.told(5), 2 + eventsLeft);
    }

    private static void passesOne() {
        passesOver(1, 2);
    }

    private static void passesAllButOne() {
        passesOver(2, 1);
    }

    private static void passesAllThatAreLeft() {
        passesOver(3, 0);
    }

    /** The run ENDS in the STEP of the 6, since none is left. */
    private static void passesMoreThanAreLeft() {
        passesOver(4, 0);
        passesOver(11, 0);
        passesOver(12, 0);
        ParallelUndo x = new ParallelUndo();
        add(x, a(SET, 1, 0, 1), a(PASS, 0, 1, 12));
        add(x, a(EVENT, 0, 0, 0), a(EVENT, 0, 0, 0));
        x.run(1, 0);
        due.is("the next call's ACTS are not passed over", x.events(), 2);
        x.clear();
        add(x, a(SET, 1, 0, 1), a(SET, 2, 0, 1), a(SET, 2, 0, 1), a(SET, 2, 0, 1), a(SET, 2, 0, 1), a(SET, 2, 0, 1),
            a(SET, 2, 0, 1), a(SET, 2, 0, 1), a(SET, 2, 0, 1), a(SET, 2, 0, 1), a(PASS, 0, 1, 12), a(EVENT, 0, 0, 0));
        due.is("as the 11th of 12: turns", x.run(1, 0), 1 + 11 + 2);
        due.is("as the 11th of 12: events()", x.events(), 0);
        due.is("as the 11th of 12: inOrder() ends", x.inOrder(0), 0);
    }

    private static void passesWhereNoneIsLeft() {
        for (int v = 1; v <= 12; v++) {
            ParallelUndo x = alone(a(SET, 1, 0, 1), a(PASS, 0, 1, v));
            told("passing over " + v + " of none", x, 1 + 2 + 2, 0, 1, 0, 0, 2, 1, 1);
        }
    }

    /** What is passed over is not done: no READ, no WRITE, no FAIL. */
    private static void passedActsAreNotDone() {
        ParallelUndo x = alone(a(SET, 1, 0, -1), a(PASS, 1, 0, 4), a(FAIL, 1, 0, 0), a(READ, 2, 0, 4),
            a(WRITE, 1, 0, 5), a(EVENT, 1, 0, 0), a(WRITE, 1, 0, 6));
        of("passed over", x, 0, 1, 3, 0, 0, 1, 0);
        due.is("passed over: at(5)", x.at(5), 0);
        due.is("behind it: at(6)", x.at(6), -1);
    }

    private static void fails(long r, int want) {
        ParallelUndo x = alone(a(SET, 2, 0, r), a(WRITE, 2, 0, 9), a(EVENT, 2, 0, 0), a(FAIL, 2, 0, 0));
        due.is("8 of " + r + ": FAILED", x.of(0, 2), want);
        due.is("8 of " + r + ": wrote", x.of(0, 4), 1 - want);
        due.is("8 of " + r + ": events()", x.events(), 1 - want);
        due.is("8 of " + r + ": at(9)", x.at(9), want == 1 ? 0 : r);
        due.is("8 of " + r + ": ACTS", x.of(0, 1), 4);
    }

    /** 'if r is below 0' */
    private static void failsOnlyBelow0() {
        fails(-1, 1);
        fails(Long.MIN_VALUE, 1);
        fails(-0x100000000L, 1);
        fails(0, 0);
        fails(1, 0);
        fails(0x80000000L, 0);
        fails(Long.MAX_VALUE, 0);
    }

    /** 'the call FAILS: it ends' */
    private static void failEndsInItsStep() {
        ParallelUndo x = new ParallelUndo();
        x.leaf(4, 44);
        add(x, a(SET, 0, 0, -1), a(FAIL, 0, 0, 0), a(EVENT, 0, 0, 0), a(READ, 1, 2, 4), a(WRITE, 0, 2, 4));
        due.is("failing: inOrder(4)", x.inOrder(4), 44);
        due.is("failing: turns", x.run(1, 0), 1 + 2 + 2);
        of("failing", x, 0, 1, 2, 1, 0, 0, 0);
        due.is("failing: events()", x.events(), 0);
        due.is("failing: at(4)", x.at(4), 44);
    }

    private static void failAsTheLastAct() {
        ParallelUndo x = alone(a(SET, 0, 0, -1), a(READ, 1, 2, 4), a(WRITE, 0, 2, 5), a(EVENT, 0, 0, 0),
            a(FAIL, 0, 0, 0));
        told("failing at last", x, 1 + 5 + 2, 0, 1, 0, 0, 5, 1, 1);
        of("failing at last", x, 0, 1, 5, 1, 1, 0, 0);
        due.is("failing at last: events()", x.events(), 0);
    }

    /*
     * '(what it read counts all the same)'. As UNDO_TURNS, with call 1 of three ACTS, by which it FAILS: it had read
     * LEAF 3 of NONE and is undone by 0.
     */
    private static void failedCallIsUndoneByWhatItRead() {
        ParallelUndo x = new ParallelUndo();
        add(x, a(SET, 0, 0, 5), a(WRITE, 0, 1, 3));
        add(x, a(READ, 0, 1, 3), a(SET, 1, 0, -1), a(FAIL, 1, 0, 0));
        int seed = Turns.seedFor(2, 0, 1, 1, 1, 1, 1, 0, 0, 0, 0, 0, 0, 0, 0, 0, 0);
        due.is("a failed call is undone: turns", x.run(2, seed), 16);
        told("a failed call is undone", x, 16, 0, 3, 1, 0, 8, 1, 2);
        of("a failed call is undone", x, 1, 2, 3, 1, 1, 0, 0);
        conflicts("a failed call is undone", x, 1, 0);
    }

    /*
     * Call 1 writes LEAF 5 while it reads 0 of LEAF 3, and FAILS when it reads more: its entry of LEAF 5 goes.
     * 1 w0 takes 0. 2 w1: V 1. 3 w1 takes 1. 4 .. 7 w1 ends 1 with LEAF 5. 8, 9 w1 looks at 1. 10 .. 12 w1 takes and
     * ends 2, which reads LEAF 5 of 1. 13, 14 w0 ends 0, V 0. Whoever comes then: 1 is undone and FAILS, 2 is undone.
     */
    private static void failedCallLosesWhatItHad() {
        ParallelUndo x = new ParallelUndo();
        x.leaf(5, 77);
        add(x, a(SET, 0, 0, 5), a(WRITE, 0, 1, 3));
        add(x, a(READ, 0, 1, 3), a(WRITE, 0, 1, 5), a(MINUS, 1, 0, 0), a(FAIL, 1, 0, 0));
        add(x, a(READ, 0, 1, 5), a(EVENT, 0, 0, 0));
        x.run(2, Turns.seedFor(2, 0, 1, 1, 1, 1, 1, 1, 1, 1, 1, 1, 1, 0, 0));
        of("what it had goes", x, 1, 2, 4, 1, 1, 0, 0);
        due.is("what it had goes: call 2 was undone", x.of(2, 0) >= 2, true);
        events("what it had goes", x, 77);
        due.is("what it had goes: at(5)", x.at(5), 77);
        due.is("what it had goes: groups", x.told(6), 2);
    }

    /** 'a call without ACTS: in the first STEP of RUN' */
    private static void callWithoutActs() {
        ParallelUndo x = alone();
        told("a call without ACTS", x, 1 + 1 + 2, 0, 1, 0, 0, 0, 1, 1);
        of("a call without ACTS", x, 0, 1, 0, 0, 0, 0, 0);
        conflicts("a call without ACTS", x);
    }

    private static void sixteenCallsWithoutActs() {
        ParallelUndo x = new ParallelUndo();
        for (int c = 0; c < 16; c++) {
            x.call();
        }
        due.is("16 calls without ACTS: turns", x.run(1, 9), 16 * 4);
        told("16 calls without ACTS", x, 64, 0, 16, 0, 0, 0, 16, 16);
        of("16 calls without ACTS", x, 15, 1, 0, 0, 0, 0, 15);
    }

    private static void callWhoseActsWereRefused() {
        ParallelUndo x = new ParallelUndo();
        x.call();
        due.is("an act that is refused", x.act(0, SET, 4, 0, 1), NONE);
        due.is("its call has none: turns", x.run(1, 0), 4);
        due.is("its call has none: ACTS", x.told(5), 0);
    }

    /** 'without CALLS at once': whatever the workers, the seed and the latest run. */
    private static void blockWithoutCalls() {
        ParallelUndo x = writerAndReader();
        x.run(2, Turns.seedFor(2, UNDO_TURNS));
        x.clear();
        x.leaf(9, 90);
        for (int w = 1; w <= 4; w++) {
            due.is("without CALLS: turns", x.run(w, -w), 0);
            told("without CALLS", x, 0, 0, 0, 0, 0, 0, 0, 0);
            conflicts("without CALLS", x);
            events("without CALLS", x);
            due.is("without CALLS: of(0, 0)", x.of(0, 0), NONE);
            due.is("without CALLS: at(3)", x.at(3), 5);
            due.is("without CALLS: at(9)", x.at(9), 90);
            due.is("without CALLS: inOrder(9)", x.inOrder(9), 90);
        }
    }

    /** 'a LEAF that was not written in the block being as it was before' */
    private static void unwrittenLeafIsAsBefore() {
        ParallelUndo x = new ParallelUndo();
        for (int k = 0; k < 32; k++) {
            x.leaf(k, 1000 + k);
        }
        add(x, a(READ, 0, 3, 7), a(WRITE, 0, 3, 8));
        for (int i = 0; i < 2; i++) {
            for (int k = 0; k < 32; k++) {
                due.is("inOrder(" + k + ")", x.inOrder(k), k == 8 ? 1007 : 1000 + k);
                due.is("at(" + k + ")", x.at(k), i == 1 && k == 8 ? 1007 : 1000 + k);
            }
            x.run(4, 4);
        }
    }

    /*
     * 'What a call writes it reads itself; others see it when it ends', with each kind of ACTS: by inOrder(), by a block
     * that FELL (turns as UNDO_TURNS, up to the 11th, ahead of which 2, 3 and 4 have not begun) and by one worker.
     * Call 2 reads 7, its own, makes 14 and -98 of it and passes over its last ACT alone; 3 FAILS by that -98; 4 does not
     * see what 3 wrote.
     */
    private static void eachKindInOrder() {
        long[][] want = {{3, 5}, {10, 7}, {11, 14}, {12, -98}, {13, 77}, {14, 77}, {15, 77}, {16, 0}};
        ParallelUndo x = writerAndReader();
        x.bound(1);
        x.leaf(13, 77);
        add(x, a(SET, 0, 0, 7), a(WRITE, 0, 3, 10), a(READ, 1, 3, 10), a(PLUS, 1, 0, 0), a(WRITE, 1, 3, 11),
            a(MINUS, 0, 1, 0), a(TIMES, 1, 0, 0), a(WRITE, 1, 3, 12), a(PASS, 0, 1, 1), a(EVENT, 0, 0, 0),
            a(PASS, 1, 0, 1), a(EVENT, 1, 0, 0));
        add(x, a(READ, 0, 3, 12), a(WRITE, 0, 3, 13), a(EVENT, 0, 0, 0), a(FAIL, 0, 0, 0));
        add(x, a(READ, 0, 3, 13), a(WRITE, 0, 3, 14), a(READ, 1, 3, 11), a(WRITE, 0, 1, 1));
        for (long[] w : want) {
            due.is("each kind: inOrder(" + w[0] + ")", x.inOrder((int) w[0]), w[1]);
        }
        due.is("each kind, fallen: turns", x.run(2, Turns.seedFor(2, UNDO_TURNS)), 11);
        told("each kind, fallen", x, 11, 1, 2, 1, 0, 4 + 23, 2, 5);
        eachKind("each kind, fallen", x, want);
        due.is("each kind, alone: turns", x.run(1, 0), (2 + 2 + 11 + 4 + 4) + 5 * 3);
        told("each kind, alone", x, 38, 0, 5, 0, 0, 23, 2, 5);
        eachKind("each kind, alone", x, want);
    }

    private static void eachKind(String name, ParallelUndo x, long[][] want) {
        for (long[] w : want) {
            due.is(name + ": at(" + w[0] + ")", x.at((int) w[0]), w[1]);
        }
        events(name, x, 5, -7);
        of(name, x, 2, 1, 11, 0, 0, 3, 2);
        of(name, x, 3, 1, 4, 1, 1, 0, 2);
        of(name, x, 4, 1, 4, 0, 2, 2, 2);
    }
}
