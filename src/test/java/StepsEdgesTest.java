/** The boundary cases of the workers' STEPS ('======== 2') and of what is told THEN ('======== 3'). */
public final class StepsEdgesTest extends Telling {
    public static void main(String[] args) {
        oneWorkerTakesAnySeed();
        fourWorkersStep();
        turnsAreOf32Bits();
        seedsAtTheirEdges();
        theGreatestBelowIsSeen();
        itsOwnFormerEntryIsNotSeen();
        entriesAboveAreNotSeen();
        ownWriteIsSetAside();
        aLaterReadHasTheSameValue();
        twoWaitForOne();
        oneWaitsForOneThatWaits();
        undoneWhereRIsNotAbove();
        fallsByBoundOnly();
        fallGivesUpAll();
        boundIsKept();
        boundHundredIsFarAboveNine();
        conflictsOfOneRunAlone();
        noConflictOfAWorkerAlone();
        groupsOfSixteen();
        groupsOverAFailedCall();
        groupOfItsOwnWrite();
        leavesOfTheGreatestCall();
        eventsOfTheLastRuns();
        due.close("StepsEdgesTest");
    }

    /** 'w 1 .. 4': the worker is something modulo 1, so that the seed can't matter. */
    private static void oneWorkerTakesAnySeed() {
        int[] seeds = {0, 1, -1, 12345, MAX, MIN};
        ParallelUndo x = writerAndReader();
        for (int seed : seeds) {
            due.is("one worker, seed " + seed, x.run(1, seed), (1 + 2 + 2) * 2);
            told("one worker, seed " + seed, x, 10, 0, 2, 0, 0, 4, 1, 2);
        }
    }

    /*
     * 1 w0 takes 0. 2 w1: V 1. 3 w1 takes 1. 4 w2: V 2. 5 w2 takes 2. 6 w3: V 3. 7, 8 w3 takes and ends 3, which
     * read LEAF 0 of NONE. Whoever comes then: 0, 1 and 2 end, and 3 is undone by 0.
     */
    private static void fourWorkersStep() {
        ParallelUndo x = new ParallelUndo();
        for (int c = 0; c < 3; c++) {
            add(x, a(SET, 0, 0, c + 5), a(WRITE, 0, 1, c));
        }
        add(x, a(READ, 0, 1, 0));
        int turns = x.run(4, Turns.seedFor(4, 0, 1, 1, 2, 2, 3, 3, 3));
        told("four workers", x, turns, 0, x.told(2), 1, 0, 8, 3, 4);
        of("four workers", x, 3, 2, 1, 0, 1, 0, 0);
        conflicts("four workers", x, 3, 0);
    }

    /*
     * '(32 bits; at first the seed)', '>>>': with three workers all 32 bits count. Each of these seeds has the turns of
     * UNDO_TURNS; signed shifts, 64 bits, or a first turn by the seed itself would make others of them.
     */
    private static void turnsAreOf32Bits() {
        int[] seeds = {2998660, 10856176, -2274158, -3102131, -2138665879, -2137238163};
        for (int seed : seeds) {
            due.is("seed " + seed + " has its turns", Turns.begins(3, seed, UNDO_TURNS), true);
            ParallelUndo x = writerAndReader();
            due.is("seed " + seed + ": turns", x.run(3, seed), 14);
            told("seed " + seed, x, 14, 0, 3, 1, 0, 6, 1, 2);
            conflicts("seed " + seed, x, 1, 0);
        }
    }

    /** Answered by the model, whose TURNS are reckoned in longs. */
    private static void seedsAtTheirEdges() {
        int[] seeds = {0, 1, -1, MAX, MAX - 1, MIN, MIN + 1, 0xffff, 0x10000, -0x10000};
        ParallelUndo x = crowd();
        Model m = new Model();
        for (long[][] acts : CROWD) {
            int c = m.call();
            for (long[] a : acts) {
                m.act(c, (int) a[0], (int) a[1], (int) a[2], a[3]);
            }
        }
        for (int seed : seeds) {
            for (int w = 1; w <= 4; w++) {
                String name = "run(" + w + ", " + seed + ")";
                due.is(name, x.run(w, seed), m.run(w, seed));
                for (int what = 0; what < 8; what++) {
                    due.is(name + ": told(" + what + ")", x.told(what), m.told(what));
                }
            }
        }
    }

    /** 'the entry of the greatest call below i' */
    private static void theGreatestBelowIsSeen() {
        ParallelUndo x = new ParallelUndo();
        x.leaf(3, 30);
        add(x, a(READ, 0, 1, 3), a(EVENT, 0, 0, 0));
        add(x, a(SET, 0, 0, 31), a(WRITE, 0, 1, 3));
        add(x, a(READ, 0, 1, 3), a(EVENT, 0, 0, 0));
        add(x, a(SET, 0, 0, 32), a(WRITE, 0, 1, 3));
        add(x, a(SET, 0, 0, 99), a(WRITE, 0, 1, 4));
        add(x, a(READ, 0, 1, 3), a(EVENT, 0, 0, 0));
        add(x, a(SET, 0, 0, 33), a(WRITE, 0, 1, 3));
        for (int w = 1; w <= 4; w++) {
            x.leaf(3, 30);
            x.run(w, 11);
            events("the greatest below, " + w + " workers", x, 30, 31, 32);
            due.is("the greatest of all", x.at(3), 33);
        }
    }

    /*
     * As UNDO_TURNS, call 1 writing LEAF 3, too: what it had written is PERHAPS at 12, but it looks below itself alone.
     * At 13 it writes what it had (PERHAPS is had), so that it is looked at by the same worker at 14.
     */
    private static void itsOwnFormerEntryIsNotSeen() {
        ParallelUndo x = new ParallelUndo();
        add(x, a(SET, 0, 0, 5), a(WRITE, 0, 1, 3));
        add(x, a(READ, 0, 1, 3), a(WRITE, 0, 1, 3));
        due.is("its own entry: turns", x.run(2, Turns.seedFor(2, UNDO_TURNS)), 14);
        told("its own entry", x, 14, 0, 3, 1, 0, 6, 1, 2);
        of("its own entry", x, 1, 2, 2, 0, 1, 1, 0);
        conflicts("its own entry", x, 1, 0);
        due.is("its own entry: at(3)", x.at(3), 5);
    }

    /*
     * 1 w0 takes 0. 2 w1: V 1. 3 .. 5 w1 takes and ends 1, which wrote LEAF 3. 6 w0 reads LEAF 3 of NONE. 7, 8 w0 ends
     * and looks at 0. Whoever comes then looks at 1.
     */
    private static void entriesAboveAreNotSeen() {
        ParallelUndo x = new ParallelUndo();
        add(x, a(READ, 0, 1, 3), a(EVENT, 0, 0, 0));
        add(x, a(SET, 0, 0, 9), a(WRITE, 0, 1, 3));
        int turns = x.run(2, Turns.seedFor(2, 0, 1, 1, 1, 1, 0, 0, 0));
        told("an entry above", x, turns, 0, 2, 0, 0, 4, 1, 2);
        events("an entry above", x, 0);
        conflicts("an entry above", x);
    }

    /** 'its own writes set aside': a call that reads a LEAF and writes it is not undone by that. */
    private static void ownWriteIsSetAside() {
        ParallelUndo x = new ParallelUndo();
        x.bound(1);
        x.leaf(3, 2);
        add(x, a(READ, 0, 1, 3), a(TIMES, 0, 0, 0), a(WRITE, 0, 1, 3));
        add(x, a(READ, 0, 1, 3), a(TIMES, 0, 0, 0), a(WRITE, 0, 1, 3));
        x.run(1, 0);
        told("own writes set aside", x, 12, 0, 2, 0, 0, 6, 1, 2);
        due.is("own writes set aside: at(3)", x.at(3), 16);
    }

    /*
     * Call 1 reads LEAF 3 twice and would pass over its last ACT if it read more the second time.
     * 1 w0 takes 0. 2 w1: V 1. 3, 4 w1 takes 1 and reads 0 of NONE. 5, 6 w0 ends 0, V 0. 7 w1 reads 0 again. 8, 9 w1
     * does both ACTS that are left. Whoever comes then: 0 is looked at, 1 is undone and does four ACTS again.
     */
    private static void aLaterReadHasTheSameValue() {
        ParallelUndo x = new ParallelUndo();
        add(x, a(SET, 0, 0, 5), a(WRITE, 0, 1, 3));
        add(x, a(READ, 0, 1, 3), a(READ, 2, 1, 3), a(PASS, 0, 2, 1), a(SET, 1, 0, 0));
        int turns = x.run(2, Turns.seedFor(2, 0, 1, 1, 1, 0, 0, 1, 1, 1));
        told("the same value", x, turns, 0, 3, 1, 0, 2 + 4 + 4, 1, 2);
        of("the same value", x, 1, 2, 4, 0, 1, 0, 0);
    }

    /*
     * 'all that WAIT for it are READY, and R becomes the least of them'.
     * 1 w0 takes 0. 2 w1: V 1. 3 .. 5 w1 takes and ends 1 (LEAF 0 of NONE). 6, 7 w0 ends 0, V 0. 8, 9 w0 looks at 0.
     * 10 w0 takes the look at 1, V 2. 11 w1 takes 2. 12 w2: V 3. 13 w2 takes 3, R 4. 14 w0: 1 is undone by 0 and run, V 2.
     * 15 w1: 2 waits for 1. 16 w2: 3 waits for 1. Whoever comes then: 1 ends, R 2, and 2 and 3 are run.
     */
    private static void twoWaitForOne() {
        int seed = 15522440;
        due.is("the seed of two that wait has its turns",
            Turns.begins(3, seed, 0, 1, 1, 1, 1, 0, 0, 0, 0, 0, 1, 2, 2, 0, 1, 2), true);
        ParallelUndo x = new ParallelUndo();
        add(x, a(SET, 0, 0, 7), a(WRITE, 0, 1, 0));
        add(x, a(READ, 0, 1, 0), a(WRITE, 0, 1, 1));
        add(x, a(READ, 0, 1, 1), a(EVENT, 0, 0, 0));
        add(x, a(READ, 0, 1, 1), a(EVENT, 0, 0, 0));
        int turns = x.run(3, seed);
        told("two wait for one", x, turns, 0, 5, 1, 2, 10, 1, 4);
        of("two wait for one", x, 2, 2, 2, 0, 1, 0, 0);
        of("two wait for one", x, 3, 2, 2, 0, 1, 0, 0);
        conflicts("two wait for one", x, 1, 0, 2, 1, 3, 1);
        events("two wait for one", x, 7, 7);
    }

    /*
     * 1 w0 takes 0. 2 w1: V 1. 3 .. 5 w1 takes and ends 1. 6, 7 w1 looks at 1. 8 .. 10 w1 takes and ends 2. 11 w0 ends 0,
     * V 0. 12, 13 w0 looks at 0. 14, 15 w0 looks at 1: undone by 0 and run. 16, 17 w1 looks at 2: PERHAPS of 1, undone
     * and run. 18 w1: 2 waits for 1. 19, 20 w1 takes 3, which waits for 2. Whoever comes then: 1 ends, 2 is READY, 3 is not
     * until 2 ends.
     */
    private static void oneWaitsForOneThatWaits() {
        int seed = -221592051;
        due.is("the seed of a row that waits has its turns",
            Turns.begins(3, seed, 0, 1, 1, 1, 1, 1, 1, 1, 1, 1, 0, 0, 0, 0, 0, 1, 1, 1, 1, 1), true);
        ParallelUndo x = new ParallelUndo();
        x.leaf(0, 6);
        add(x, a(WRITE, 0, 0, 0));
        add(x, a(READ, 0, 1, 0), a(WRITE, 0, 1, 1));
        add(x, a(READ, 0, 1, 1), a(WRITE, 0, 1, 2));
        add(x, a(READ, 0, 1, 2));
        int turns = x.run(3, seed);
        told("a row that waits", x, turns, 0, 7, 2, 2, 10, 1, 4);
        of("a row that waits", x, 1, 2, 2, 0, 1, 1, 0);
        of("a row that waits", x, 2, 3, 2, 0, 1, 1, 0);
        of("a row that waits", x, 3, 2, 1, 0, 1, 0, 0);
        conflicts("a row that waits", x, 1, 0, 2, 1, 2, 1, 3, 2);
    }

    /*
     * 'if R is above i .. else no TASK'. The workers are 2, 0 and 1, called p, q and r here.
     * 1 p takes 0. 2 q: V 1. 3 .. 5 q takes and ends 1. 6 p ends 0, V 0. 7, 8 p looks at 0. 9 p takes the look at 1, V 2.
     * 10 q takes 2. 11 r: V 3. 12, 13 r takes and ends 3, which read LEAF 1 of 1. 14 r takes the look at 3, V 4. 15 p: 1 is
     * undone by 0 and run, V 2. 16 q: 2 waits for 1. 17, 18 p ends 1, R 2, and is to look at it. 19 q takes 2, R 3.
     * 20 r looks at 3: undone by 1, but R is not above it: it is READY. 21 r: V 3. 22 q ends 2 and is to look at it.
     * 23, 24 r takes and ends 3, R 4. 25, 26 r looks at 3, V 4. 27 p looks at 1. 28, 29 r has nothing. 30 q looks at 2.
     */
    private static void undoneWhereRIsNotAbove() {
        int seed = 1610132912;
        due.is("the seed of R not above has its turns",
            Turns.begins(3, seed, 2, 0, 0, 0, 0, 2, 2, 2, 2, 0, 1, 1, 1, 1, 2, 0, 2, 2, 0, 1,
                1, 0, 1, 1, 1, 1, 2, 1, 1, 0), true);
        ParallelUndo x = new ParallelUndo();
        add(x, a(WRITE, 0, 0, 0));
        add(x, a(READ, 0, 1, 0), a(WRITE, 0, 1, 1));
        add(x, a(READ, 0, 1, 1));
        add(x, a(READ, 0, 1, 1));
        due.is("R is not above: turns", x.run(3, seed), 30);
        told("R is not above", x, 30, 0, 6, 2, 1, 8, 1, 4);
        conflicts("R is not above", x, 1, 0, 2, 1, 3, 1);
        of("R is not above", x, 2, 2, 1, 0, 1, 0, 0);
        of("R is not above", x, 3, 2, 1, 0, 1, 0, 0);
    }

    /** 'its run's number is b or more by that': one undoing makes it 1. */
    private static void fallsByBoundOnly() {
        int[] bounds = {1, 2, 3, 99, 100};
        for (int b : bounds) {
            ParallelUndo x = writerAndReader();
            x.bound(b);
            due.is("bound " + b + ": turns", x.run(2, Turns.seedFor(2, UNDO_TURNS)), b == 1 ? 11 : 14);
            due.is("bound " + b + ": FELL", x.told(1), b == 1 ? 1 : 0);
            due.is("bound " + b + ": runs of 0", x.of(0, 0), b == 1 ? 2 : 1);
            due.is("bound " + b + ": runs of 1", x.of(1, 0), 2);
            conflicts("bound " + b, x, 1, 0);
        }
    }

    /*
     * 'all is given up in that STEP'. To 10 as UNDO_TURNS. 11, 12 w1 takes 2 and does one ACT. 13 w0 looks at 1: undone,
     * all falls: 2's run is given up, but not to wait, and is no CONFLICT; 3 had not begun. The next run() begins with
     * no TASK, too.
     */
    private static void fallGivesUpAll() {
        ParallelUndo x = writerAndReader();
        x.bound(1);
        add(x, a(SET, 0, 0, 1), a(SET, 0, 0, 2), a(EVENT, 0, 0, 0));
        add(x, a(SET, 0, 0, -1), a(FAIL, 0, 0, 0));
        int seed = Turns.seedFor(2, 0, 1, 1, 1, 1, 0, 0, 0, 0, 0, 1, 1, 0);
        for (int i = 0; i < 2; i++) {
            due.is("all is given up: turns", x.run(2, seed), 13);
            told("all is given up", x, 13, 1, 2, 1, 0, (2 + 2 + 1) + (2 + 2 + 3 + 2), 3, 4);
            of("all is given up", x, 0, 2, 2, 0, 0, 1, 0);
            of("all is given up", x, 1, 2, 2, 0, 1, 0, 0);
            of("all is given up", x, 2, 2, 3, 0, 0, 0, 2);
            of("all is given up", x, 3, 1, 2, 1, 0, 0, 3);
            conflicts("all is given up", x, 1, 0);
            events("all is given up", x, 5, 2);
        }
    }

    /** BOUND stays what it is over run() and clear(), and a later run FALLS or not by itself. */
    private static void boundIsKept() {
        int seed = Turns.seedFor(2, UNDO_TURNS);
        ParallelUndo x = writerAndReader();
        x.bound(1);
        for (int i = 0; i < 2; i++) {
            due.is("bound 1, again", x.run(2, seed), 11);
            due.is("bound 1, again: FELL", x.told(1), 1);
        }
        x.clear();
        due.is("bound 1, no CALLS", x.run(2, seed), 0);
        due.is("bound 1, no CALLS: FELL", x.told(1), 0);
        add(x, a(SET, 0, 0, 5), a(WRITE, 0, 1, 3));
        add(x, a(READ, 0, 1, 3), a(EVENT, 0, 0, 0));
        due.is("bound 1 behind clear()", x.run(2, seed), 11);
        x.bound(2);
        due.is("bound 2", x.run(2, seed), 14);
        due.is("bound 2: FELL", x.told(1), 0);
    }

    private static void boundHundredIsFarAboveNine() {
        ParallelUndo nine = crowd();
        nine.bound(9);
        ParallelUndo hundred = crowd();
        hundred.bound(100);
        due.is("bound 100 as bound 9", hundred.run(4, CROWD_SEED), nine.run(4, CROWD_SEED));
        due.is("bound 100 does not fall", hundred.told(1), 0);
    }

    /** CONFLICTS, EVENTS and the tally are of the latest run() alone. */
    private static void conflictsOfOneRunAlone() {
        ParallelUndo x = writerAndReader();
        int seed = Turns.seedFor(2, UNDO_TURNS);
        for (int i = 0; i < 3; i++) {
            x.run(2, seed);
            told("run " + i, x, 14, 0, 3, 1, 0, 6, 1, 2);
            of("run " + i, x, 1, 2, 2, 0, 1, 0, 0);
            conflicts("run " + i, x, 1, 0);
            events("run " + i, x, 5);
        }
        x.run(1, seed);
        told("run by one", x, 10, 0, 2, 0, 0, 4, 1, 2);
        conflicts("run by one", x);
    }

    private static void noConflictOfAWorkerAlone() {
        ParallelUndo x = crowd();
        x.bound(1);
        for (int seed = 0; seed < 5; seed++) {
            x.run(1, seed);
            conflicts("a worker alone", x);
            due.is("a worker alone: FELL", x.told(1), 0);
            due.is("a worker alone: LOOKS", x.told(2), CROWD.length);
        }
    }

    /** '.. and so on': a row of 16, each of which has a LEAF in common with the next one alone. */
    private static void groupsOfSixteen() {
        ParallelUndo x = new ParallelUndo();
        for (int c = 0; c < 16; c++) {
            int place = c % 2 == 0 ? c / 2 : 15 - c / 2;
            add(x, a(READ, 0, 3, place), a(READ, 0, 3, place + 1));
        }
        x.run(3, 3);
        for (int c = 0; c < 16; c++) {
            due.is("the group of " + c, x.of(c, 5), 0);
        }
        due.is("one group of 16", x.told(6), 1);
    }

    /** 'a call that FAILED SAW alone': by what it SAW it joins the others. */
    private static void groupsOverAFailedCall() {
        ParallelUndo x = new ParallelUndo();
        add(x, a(WRITE, 0, 0, 1));
        add(x, a(WRITE, 0, 0, 2));
        add(x, a(WRITE, 0, 0, 3));
        add(x, a(READ, 0, 1, 2), a(READ, 0, 1, 3), a(WRITE, 0, 1, 1), a(SET, 2, 0, -1), a(FAIL, 2, 0, 0),
            a(READ, 0, 1, 1));
        x.run(1, 0);
        due.is("what a failed call wrote does not join", x.of(0, 5), 0);
        due.is("the least of what it SAW", x.of(1, 5), 1);
        due.is("the other one that it SAW", x.of(2, 5), 1);
        due.is("the failed call", x.of(3, 5), 1);
        due.is("groups over a failed call", x.told(6), 2);
    }

    /** A LEAF that a call wrote is common, whether it was read ahead of that, behind it or not at all. */
    private static void groupOfItsOwnWrite() {
        ParallelUndo x = new ParallelUndo();
        add(x, a(WRITE, 0, 0, 5), a(READ, 1, 0, 5));
        add(x, a(READ, 0, 1, 6));
        add(x, a(WRITE, 0, 0, 5));
        add(x);
        x.run(1, 0);
        of("its own write", x, 0, 1, 2, 0, 0, 1, 0);
        of("another leaf", x, 1, 1, 1, 0, 1, 0, 1);
        of("the same leaf", x, 2, 1, 1, 0, 0, 1, 0);
        of("no leaf", x, 3, 1, 0, 0, 0, 0, 3);
        due.is("groups", x.told(6), 3);
    }

    /** 'each LEAF: the entry of the greatest call, if there is one' */
    private static void leavesOfTheGreatestCall() {
        ParallelUndo x = new ParallelUndo();
        x.leaf(2, 22);
        add(x, a(SET, 0, 0, 1), a(WRITE, 0, 1, 0), a(WRITE, 0, 1, 31));
        add(x, a(SET, 0, 0, 2), a(WRITE, 0, 1, 0), a(SET, 0, 0, -3), a(WRITE, 0, 1, 1), a(WRITE, 0, 1, 31));
        add(x, a(SET, 0, 0, -4), a(WRITE, 0, 1, 1), a(WRITE, 0, 1, 2), a(FAIL, 0, 0, 0));
        for (int w = 1; w <= 4; w++) {
            x.run(w, 100);
            due.is("at(0)", x.at(0), 2);
            due.is("at(1)", x.at(1), -3);
            due.is("at(2), of a failed call alone", x.at(2), 22);
            due.is("at(31)", x.at(31), -3);
        }
    }

    /** The EVENTS of an undone run are not there: call 1 makes one of the 0 that it read first. */
    private static void eventsOfTheLastRuns() {
        ParallelUndo x = new ParallelUndo();
        add(x, a(SET, 0, 0, 5), a(WRITE, 0, 1, 3));
        add(x, a(READ, 0, 1, 3), a(EVENT, 0, 0, 0));
        add(x, a(EVENT, 0, 0, 0));
        x.run(2, Turns.seedFor(2, UNDO_TURNS));
        due.is("call 1 ran anew", x.of(1, 0) >= 2, true);
        events("events of the last runs", x, 5, 0);
        due.is("the first one's call", x.event(0, 1), 1);
        due.is("the second one's call", x.event(1, 1), 2);
    }
}
