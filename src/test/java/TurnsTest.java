/**
 * Whole runs turn by turn, each for a sentence of the STEPS that only such a run can tell of. The seeds were found by a
 * search; what is due in each turn was worked out from the document's words.
 */
public final class TurnsTest extends Telling {
    public static void main(String[] args) {
        aGivenUpRunLeavesTheNumber();
        keptIsNotSeenAnew();
        waitsForTheGreatest();
        perhapsUnderAWrittenOne();
        whatGoesIsNotNew();
        waitsOnWhereTheOtherIsGivenUp();
        undoneWhereRIsBelow();
        fallsWhereRIsNotAbove();
        due.close("TurnsTest");
    }

    /** The order is that of all TURNS of the run. */
    private static void runs(String name, ParallelUndo x, int workers, int seed, int... order) {
        due.is(name + ": the seed has its turns", Turns.begins(workers, seed, order), true);
        due.is(name + ": turns", x.run(workers, seed), order.length);
    }

    /** Call 0 writes LEAF 0, 1 reads it and writes LEAF 1. */
    private static ParallelUndo twoInARow() {
        ParallelUndo x = new ParallelUndo();
        add(x, a(WRITE, 0, 0, 0));
        add(x, a(READ, 0, 1, 0), a(WRITE, 0, 1, 1));
        return x;
    }

    /*
     * 'its run's number is one more' where it is UNDONE, not where a run is given up: 3 begins three runs, one of them
     * given up, and is UNDONE once: BOUND 2 is not reached.
     * 1 w2 takes 0. 2, 3 w1: V 1, takes 1. 4, 5 w0: V 2, takes 2. 6 w0: 2 reads LEAF 0 of NONE. 7 w1 ends 1, V 1.
     * 8 w0 ends 2. 9, 10 w1 looks at 1. 11, 12 w1 looks at 2: UNDONE by 1 and run, V 3. 13 w0 takes 3, R 4.
     * 14 w0: 3 waits for 2. 15, 16 w1 ends 2: 3 is READY, R 3. 17 w0 takes 3, R 4. 18 w1 looks at 2. 19 w1: V 4. 20 w1:
     * nothing. 21, 22 w0 ends 3, which read LEAF 5 of NONE, and is to look at it. 23 w2 ends 0, V 0. 24 w0 looks at 3:
     * UNDONE by 0 and run. 25, 26 w0 ends 3, V is not above it. 27 .. 30 looks at 0 and 1. 31 w0 takes the look at 2.
     * 32, 33 w1 looks at 3. 34 w0 looks at 2.
     */
    private static void aGivenUpRunLeavesTheNumber() {
        ParallelUndo x = new ParallelUndo();
        x.bound(2);
        add(x, a(WRITE, 0, 0, 5));
        add(x, a(WRITE, 0, 0, 0));
        add(x, a(READ, 0, 1, 0), a(WRITE, 0, 1, 1));
        add(x, a(READ, 0, 1, 1), a(READ, 0, 1, 5));
        runs("given up, then undone", x, 3, -127921393, 2, 1, 1, 0, 0, 0, 1, 0, 1, 1, 1, 1, 0, 0, 1, 1, 0, 1, 1, 1, 0, 0,
            2, 0, 0, 0, 1, 1, 2, 2, 0, 1, 1, 0);
        told("given up, then undone", x, 34, 0, 8, 2, 1, 10, 1, 4);
        of("given up, then undone", x, 2, 2, 2, 0, 1, 1, 0);
        of("given up, then undone", x, 3, 3, 2, 0, 2, 0, 0);
        conflicts("given up, then undone", x, 2, 1, 3, 2, 3, 0);
    }

    /*
     * 'a later READ of that LEAF in this run has the same value', also where it is PERHAPS by then: no run is given up.
     * 1 w1 takes 0. 2, 3 w0: V 1, takes 1. 4 w0: 1 reads LEAF 0 of NONE. 5 w1 ends 0, V 0. 6 w1 takes the look at 0.
     * 7 w0 ends 1. 8 w0 takes the look at 1, V 2. 9 w1 looks at 0. 10, 11 w1 takes 2, which reads LEAF 1 of 1. 12 w0: 1 is
     * UNDONE by 0 and run. 13 w1: 2 reads LEAF 1 again and ends. 14 w0 goes on with 1. 15, 16 w1 looks at 2: PERHAPS of 1,
     * UNDONE and run. 17 w0 ends 1. 18 w1: 2 reads LEAF 1 of 1's run 1. 19 w0 looks at 1. 20, 21 w1 ends and looks at 2.
     */
    private static void keptIsNotSeenAnew() {
        ParallelUndo x = twoInARow();
        add(x, a(READ, 0, 1, 1), a(READ, 2, 1, 1));
        runs("kept is not seen anew", x, 2, 495, 1, 0, 0, 0, 1, 1, 0, 0, 1, 1, 1, 0, 1, 0, 1, 1, 0, 1, 0, 1, 1);
        told("kept is not seen anew", x, 21, 0, 5, 2, 0, 9, 1, 3);
        of("kept is not seen anew", x, 2, 2, 2, 0, 1, 0, 0);
        conflicts("kept is not seen anew", x, 1, 0, 2, 1);
    }

    /*
     * 'the entry of the greatest call below i .. PERHAPS, with that call': LEAF 1 is PERHAPS of 1 and of 2.
     * 1 w1 takes 0. 2 w0: V 1. 3 w2 takes 1. 4, 5 w0: V 2, takes 2. 6 w2 and 7 w0: 1 and 2 read LEAF 0 of NONE. 8 w0 ends 2.
     * 9 w1 ends 0, V 0. 10 w1 takes the look at 0. 11 w2 ends 1. 12, 13 w2 looks at 1: UNDONE by 0 and run. 14 w0 takes the
     * look at 2, V 3. 15 w1 looks at 0. 16 w1 takes 3, R 4. 17 w0: 2 is UNDONE by 0 and run. 18 w1: 3 waits for 2. 19 w0
     * goes on. 20 w1: V 4. 21 w0 ends 2: 3 is READY, R 3. 22 w0 looks at 2. 23 w0 takes 3. 24, 25 w2 ends 1. 26 w0 ends 3.
     * 27 w2 looks at 1. 28 w0 looks at 3.
     */
    private static void waitsForTheGreatest() {
        ParallelUndo x = twoInARow();
        add(x, a(READ, 0, 1, 0), a(WRITE, 0, 1, 1));
        add(x, a(READ, 0, 1, 1));
        runs("waits for the greatest", x, 3, 1215005074, 1, 0, 2, 0, 0, 2, 0, 0, 1, 1, 2, 2, 2, 0, 1, 1, 0, 1, 0, 1, 0, 0,
            0, 2, 2, 0, 2, 0);
        told("waits for the greatest", x, 28, 0, 6, 2, 1, 10, 1, 4);
        of("waits for the greatest", x, 3, 2, 1, 0, 1, 0, 0);
        conflicts("waits for the greatest", x, 1, 0, 2, 0, 3, 2);
    }

    /*
     * 'the entry of the greatest call below i: its value': LEAF 1 is PERHAPS of 1, but written by 2: 3 reads that of 2.
     * 1 w0 takes 0. 2, 3 w1: V 1, takes 1. 4, 5 w1 ends 1 (LEAF 0 of NONE). 6 w0 ends 0, V 0. 7, 8 w0 looks at 0. 9 w1 takes
     * the look at 1, V 2. 10, 11 w0 takes and ends 2. 12 w1: 1 is UNDONE by 0 and run. 13 w1 goes on. 14, 15 w0 looks at 2.
     * 16, 17 w0 takes and ends 3. 18 w0 takes the look at 3, V 4. 19 w1 ends 1. 20 w0 looks at 3. 21 w1 looks at 1.
     */
    private static void perhapsUnderAWrittenOne() {
        ParallelUndo x = twoInARow();
        add(x, a(WRITE, 0, 1, 1));
        add(x, a(READ, 0, 1, 1));
        runs("PERHAPS under a written one", x, 2, 726, 0, 1, 1, 1, 1, 0, 0, 0, 1, 0, 0, 1, 1, 0, 0, 0, 0, 0, 1, 0, 1);
        told("PERHAPS under a written one", x, 21, 0, 5, 1, 0, 7, 1, 4);
        of("PERHAPS under a written one", x, 3, 1, 1, 0, 1, 0, 0);
        conflicts("PERHAPS under a written one", x, 1, 0);
    }

    /*
     * 'if it wrote a LEAF which it had not': one that it had and did not write now is no reason for V. Call 1 writes LEAF 5
     * when it reads 0 of LEAF 3, and FAILS when it reads 5.
     * 1 w0 takes 0. 2, 3 w1: V 1, takes 1. 4 w1: 1 reads LEAF 3 of NONE. 5, 6 w0 ends 0, V 0. 7 w1 goes on. 8 w0 takes the
     * look at 0, V 1. 9, 10 w1 ends 1 with LEAF 5. 11, 12 w1 looks at 1: UNDONE by 0 and run, V 2. 13 w1 goes on. 14 w0 looks
     * at 0. 15 .. 17 w1: 1 FAILS: V is above it and stays, w1 is to look at it. 18 w1 looks at 1.
     */
    private static void whatGoesIsNotNew() {
        ParallelUndo x = new ParallelUndo();
        add(x, a(SET, 0, 0, 5), a(WRITE, 0, 1, 3));
        add(x, a(READ, 0, 1, 3), a(WRITE, 0, 1, 5), a(MINUS, 1, 0, 0), a(FAIL, 1, 0, 0));
        runs("what goes is not new", x, 2, 9, 0, 1, 1, 1, 0, 0, 1, 0, 1, 1, 1, 1, 1, 0, 1, 1, 1, 1);
        told("what goes is not new", x, 18, 0, 3, 1, 0, 10, 1, 2);
        of("what goes is not new", x, 1, 2, 4, 1, 1, 0, 0);
        conflicts("what goes is not new", x, 1, 0);
    }

    /*
     * 'all that WAIT for it are READY' where its run ENDS, not where that is given up: 3 waits for 2, which waits for 1 then.
     * 1 w2 takes 0. 2 w1: V 1. 3 w0 takes 1. 4, 5 w0 ends 1 (LEAF 0 of NONE). 6 w2 ends 0, V 0. 7, 8 w0 looks at 0. 9 w0
     * takes the look at 1, V 2. 10 .. 12 w1 takes and ends 2. 13 w0: 1 is UNDONE by 0 and run, V 2. 14 w1 takes the look at 2,
     * V 3. 15 w2 takes 3, R 4. 16 w1: 2 is UNDONE, PERHAPS of 1, and run. 17 w2: 3 waits for 2. 18 w1: 2 waits for 1. 19 w0
     * goes on. 20 w1: V 4. 21 w0 ends 1: 2 is READY, R 2. 22 w1 takes 2, R 3. 23, 24 w1 ends 2: 3 is READY, R 3. 25 w1 looks
     * at 2. 26 w1 takes 3. 27 w0 looks at 1. 28, 29 w1 ends and looks at 3.
     */
    private static void waitsOnWhereTheOtherIsGivenUp() {
        ParallelUndo x = twoInARow();
        add(x, a(READ, 0, 1, 1), a(WRITE, 0, 1, 2));
        add(x, a(READ, 0, 1, 2));
        runs("waits on", x, 3, -847096088, 2, 1, 0, 0, 0, 2, 0, 0, 0, 1, 1, 1, 0, 1, 2, 1, 2, 1, 0, 1, 0, 1, 1, 1, 1, 1, 0,
            1, 1);
        told("waits on", x, 29, 0, 6, 2, 2, 10, 1, 4);
        of("waits on", x, 2, 3, 2, 0, 1, 1, 0);
        of("waits on", x, 3, 2, 1, 0, 1, 0, 0);
        conflicts("waits on", x, 1, 0, 2, 1, 3, 2, 2, 1);
    }

    /** Calls 2 and 3 read what 1 writes. */
    private static ParallelUndo twoReaders() {
        ParallelUndo x = twoInARow();
        add(x, a(READ, 0, 1, 1));
        add(x, a(READ, 0, 1, 1));
        return x;
    }

    /*
     * 'then, if R is above i .. else no TASK', with R below i and V above it: both stay as they are.
     * 1 w0 takes 0. 2 w2: V 1. 3 w1 takes 1. 4 w1: 1 reads LEAF 0 of NONE. 5 w0 ends 0, V 0. 6 w0 takes the look at 0.
     * 7 w1 ends 1. 8 w2 takes the look at 1, V 2. 9 w1 takes 2, R 3. 10 w0 looks at 0. 11 .. 13 w0: V 3, takes and ends 3.
     * 14 w2: 1 is UNDONE by 0 and run, V 2. 15 w2 goes on. 16 w0: V 3. 17 w1: 2 waits for 1. 18 w1 takes the look at 3, V 4.
     * 19 w2 ends 1: 2 is READY, R 2. 20 w2 looks at 1. 21 w1: 3 is UNDONE by 1 and READY: R is 2, V 4. 22 w2 takes 2, R 3.
     * 23 w2 ends 2 and is to look at it. 24 w0 takes 3, R 4. 25 w0 ends 3 and is to look at it. 26 w2 looks at 2. 27 w0 looks
     * at 3.
     */
    private static void undoneWhereRIsBelow() {
        ParallelUndo x = twoReaders();
        runs("R is below", x, 3, -1732945125, 0, 2, 1, 1, 0, 0, 1, 2, 1, 0, 0, 0, 0, 2, 2, 0, 1, 1, 2, 2, 1, 2, 2, 0, 0, 2,
            0);
        told("R is below", x, 27, 0, 6, 2, 1, 8, 1, 4);
        of("R is below", x, 2, 2, 1, 0, 1, 0, 0);
        of("R is below", x, 3, 2, 1, 0, 1, 0, 0);
        conflicts("R is below", x, 1, 0, 2, 1, 3, 1);
    }

    /*
     * 'when a call is UNDONE and its run's number is b or more by that', whether it would have been run at once or not; and
     * a LOOK that was still to be made (w1's at 1) is not counted.
     * 1 w0 takes 0. 2, 3 w1: V 1, takes 1. 4 w1: 1 reads LEAF 0 of NONE. 5 w0 ends 0, V 0. 6 w2 takes the look at 0. 7 w0:
     * V 2. 8 w2 looks at 0. 9 w2 takes 2. 10 .. 12 w0: V 3, takes and ends 3 (LEAF 1 of NONE). 13 w1 ends 1, V 1. 14 w1 takes
     * the look at 1. 15 w2 ends 2. 16 w0 takes the look at 2. 17, 18 w2 looks at 3: UNDONE by 1 and run. 19 w2 ends 3 and is
     * to look at it. 20 w1: 1 is UNDONE by 0 and run. 21 w0: 2 is UNDONE, PERHAPS of 1, and run. 22 w1 goes on. 23 w0: 2 waits
     * for 1. 24 w1 ends 1: 2 is READY, R 2. 25 w2: 3 is UNDONE by 1 a second time: by BOUND 2 all falls.
     */
    private static void fallsWhereRIsNotAbove() {
        ParallelUndo x = twoReaders();
        x.bound(2);
        runs("falls, R is not above", x, 3, -1185523749, 0, 1, 1, 1, 0, 2, 0, 2, 2, 0, 0, 0, 1, 1, 2, 0, 2, 2, 2, 1, 0, 1, 0,
            1, 2);
        told("falls, R is not above", x, 25, 1, 5, 4, 1, 8 + 5, 1, 4);
        of("falls, R is not above", x, 0, 2, 1, 0, 0, 1, 0);
        of("falls, R is not above", x, 1, 3, 2, 0, 1, 1, 0);
        of("falls, R is not above", x, 2, 3, 1, 0, 1, 0, 0);
        of("falls, R is not above", x, 3, 3, 1, 0, 1, 0, 0);
        conflicts("falls, R is not above", x, 3, 1, 1, 0, 2, 1, 2, 1, 3, 1);
    }
}
