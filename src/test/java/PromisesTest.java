/** Each promise by answers that were worked out by hand from the document's words. */
public final class PromisesTest extends Telling {
    public static void main(String[] args) {
        aNewObject();
        aNewObjectHasBoundEight();
        callGivesNumbers();
        actCounts();
        actRefusesWrongRegisters();
        actRefusesWrongValues();
        clearDropsCalls();
        clearLeavesTheLatestRun();
        leafSets();
        boundTakesItsNumbers();
        runRefusesWorkers();
        runOfNoCalls();
        runOfCallsWithoutActs();
        runAlone();
        arithmeticGoesRound();
        leavesGoRound();
        passing();
        ownWritesAreRead();
        keptOnce();
        failing();
        failingKeepsWhatItRead();
        inOrderChangesNothing();
        eventsByOrder();
        groupsJoin();
        groupsOfAFailedCall();
        undoneTurnByTurn();
        fallenTurnByTurn();
        boundOfTwoDoesNotFall();
        givenUpTurnByTurn();
        seenNoMoreTurnByTurn();
        lookThatComesTooLate();
        lateLookAtAnotherRun();
        conflictIsOfTheFirstKept();
        due.close("PromisesTest");
    }

    private static void aNewObject() {
        ParallelUndo x = new ParallelUndo();
        for (int k = -1; k <= 32; k++) {
            due.is("new: at(" + k + ")", x.at(k), 0);
            due.is("new: inOrder(" + k + ")", x.inOrder(k), 0);
        }
        told("new", x, 0, 0, 0, 0, 0, 0, 0, 0);
        due.is("new: events()", x.events(), 0);
        due.is("new: event(0, 0)", x.event(0, 0), 0);
        conflicts("new", x);
        due.is("new: of(0, 0)", x.of(0, 0), NONE);
        due.is("new: clear()", x.clear(), 0);
        due.is("new: call()", x.call(), 0);
        due.is("new: of(0, 0), a call but no run", x.of(0, 0), NONE);
        due.is("NONE", ParallelUndo.NONE, -1);
    }

    private static void aNewObjectHasBoundEight() {
        ParallelUndo x = crowd();
        int turns = x.run(4, CROWD_SEED);
        due.is("a new object falls by the eighth", x.told(1), 1);
        ParallelUndo eight = crowd();
        eight.bound(8);
        due.is("bound 8 falls in the same turn", eight.run(4, CROWD_SEED), turns);
        ParallelUndo seven = crowd();
        seven.bound(7);
        due.is("bound 7 falls earlier", seven.run(4, CROWD_SEED) < turns, true);
        ParallelUndo nine = crowd();
        nine.bound(9);
        due.is("bound 9 goes on", nine.run(4, CROWD_SEED) > turns, true);
        due.is("bound 9 does not fall", nine.told(1), 0);
        for (int k = 0; k < 32; k++) {
            due.is("the crowd: at(" + k + ")", x.at(k), crowd().inOrder(k));
            due.is("the crowd that did not fall: at(" + k + ")", nine.at(k), x.at(k));
        }
    }

    private static void callGivesNumbers() {
        ParallelUndo x = new ParallelUndo();
        for (int c = 0; c < 16; c++) {
            due.is("call()", x.call(), c);
        }
        due.is("call() of a 17th", x.call(), NONE);
        due.is("call() of an 18th", x.call(), NONE);
        due.is("clear() behind them", x.clear(), 16);
        due.is("call() behind clear()", x.call(), 0);
    }

    private static void actCounts() {
        ParallelUndo x = new ParallelUndo();
        due.is("act without calls", x.act(0, SET, 0, 0, 0), NONE);
        x.call();
        x.call();
        for (int i = 1; i <= 12; i++) {
            due.is("act of call 0", x.act(0, SET, 0, 0, i), i);
        }
        due.is("a 13th act", x.act(0, SET, 0, 0, 0), NONE);
        due.is("act of call 1", x.act(1, SET, 0, 0, 0), 1);
        due.is("act of call 2", x.act(2, SET, 0, 0, 0), NONE);
        due.is("act of call -1", x.act(-1, SET, 0, 0, 0), NONE);
        due.is("act of call MIN", x.act(MIN, SET, 0, 0, 0), NONE);
        due.is("act of call MAX", x.act(MAX, SET, 0, 0, 0), NONE);
        due.is("kind -1", x.act(1, -1, 0, 0, 0), NONE);
        due.is("kind 9", x.act(1, 9, 0, 0, 0), NONE);
        due.is("kind MAX", x.act(1, MAX, 0, 0, 0), NONE);
        due.is("what is refused is not counted", x.act(1, SET, 0, 0, 0), 2);
    }

    private static void actRefusesWrongRegisters() {
        for (int kind = 0; kind <= 8; kind++) {
            ParallelUndo x = new ParallelUndo();
            x.call();
            long v = kind == PASS ? 1 : 0;
            boolean second = kind != SET && kind != EVENT && kind != FAIL;
            int count = 0;
            for (int r = -1; r <= 4; r++) {
                for (int s = -1; s <= 4; s += 1 + (r & 1)) {
                    boolean fine = r >= 0 && r <= 3 && s >= 0 && s <= (second ? 3 : 0) && count < 12;
                    count += fine ? 1 : 0;
                    due.is("act(0, " + kind + ", " + r + ", " + s + ", " + v + ")",
                        x.act(0, kind, r, s, v), fine ? count : NONE);
                }
            }
        }
    }

    private static void actRefusesWrongValues() {
        long[] values = {Long.MIN_VALUE, -1, 0, 1, 2, 11, 12, 13, 32, (1L << 32) + 1, Long.MAX_VALUE};
        for (int kind = 0; kind <= 8; kind++) {
            ParallelUndo x = new ParallelUndo();
            x.call();
            int count = 0;
            for (long v : values) {
                boolean fine = kind <= WRITE || (kind == PASS ? v >= 1 && v <= 12 : v == 0);
                count += fine ? 1 : 0;
                due.is("act(0, " + kind + ", 0, 0, " + v + ")", x.act(0, kind, 0, 0, v), fine ? count : NONE);
            }
        }
    }

    private static void clearDropsCalls() {
        ParallelUndo x = new ParallelUndo();
        add(x, a(SET, 0, 0, 9), a(WRITE, 0, 1, 4));
        add(x);
        x.leaf(3, 8);
        x.bound(1);
        due.is("clear()", x.clear(), 2);
        due.is("clear() again", x.clear(), 0);
        due.is("clear() leaves LEAVES", x.at(3), 8);
        due.is("inOrder behind clear()", x.inOrder(4), 0);
        due.is("act of a cleared call", x.act(0, SET, 0, 0, 0), NONE);
        x.call();
        due.is("a new call has no ACTS", x.act(0, EVENT, 0, 0, 0), 1);
        x.run(1, 0);
        due.is("the new call did its own alone", x.told(5), 1);
        due.is("what was cleared wrote nothing", x.at(4), 0);
    }

    private static void clearLeavesTheLatestRun() {
        ParallelUndo x = new ParallelUndo();
        add(x, a(SET, 0, 0, 9), a(EVENT, 0, 0, 0), a(WRITE, 0, 1, 4));
        x.run(1, 0);
        x.clear();
        x.call();
        x.call();
        x.act(0, READ, 0, 0, 0);
        x.inOrder(0);
        due.is("event(0, 0) behind clear()", x.event(0, 0), 9);
        of("behind clear()", x, 0, 1, 3, 0, 0, 1, 0);
        due.is("of(1, 0), not in the latest run", x.of(1, 0), NONE);
        due.is("told(7) of the latest run", x.told(7), 1);
        due.is("told(5) of the latest run", x.told(5), 3);
    }

    private static void leafSets() {
        ParallelUndo x = new ParallelUndo();
        for (int k = 0; k < 32; k++) {
            due.is("leaf(" + k + ")", x.leaf(k, 100L - k), true);
        }
        due.is("leaf(-1)", x.leaf(-1, 1), false);
        due.is("leaf(32)", x.leaf(32, 1), false);
        due.is("leaf(MAX)", x.leaf(MAX, 1), false);
        due.is("leaf(MIN)", x.leaf(MIN, 1), false);
        for (int k = 0; k < 32; k++) {
            due.is("at(" + k + ")", x.at(k), 100L - k);
            due.is("inOrder(" + k + ")", x.inOrder(k), 100L - k);
        }
        due.is("at(-1)", x.at(-1), 0);
        due.is("at(32)", x.at(32), 0);
        due.is("at(MIN)", x.at(MIN), 0);
        due.is("inOrder(-1)", x.inOrder(-1), 0);
        due.is("inOrder(32)", x.inOrder(32), 0);
        due.is("inOrder(MAX)", x.inOrder(MAX), 0);
        x.leaf(5, Long.MIN_VALUE);
        due.is("the least long", x.at(5), Long.MIN_VALUE);
    }

    private static void boundTakesItsNumbers() {
        ParallelUndo x = new ParallelUndo();
        int[] fine = {1, 2, 99, 100};
        int[] wrong = {0, -1, 101, MAX, MIN};
        for (int b : fine) {
            due.is("bound(" + b + ")", x.bound(b), true);
        }
        for (int b : wrong) {
            due.is("bound(" + b + ")", x.bound(b), false);
        }
    }

    private static void runRefusesWorkers() {
        ParallelUndo x = new ParallelUndo();
        add(x, a(SET, 0, 0, 9), a(EVENT, 0, 0, 0), a(WRITE, 0, 1, 4));
        x.run(2, 5);
        int turns = x.told(0);
        x.leaf(4, 77);
        int[] wrong = {0, -1, 5, MAX, MIN};
        x.call();
        for (int w : wrong) {
            due.is("run(" + w + ", 0)", x.run(w, 0), NONE);
        }
        due.is("refused: told(0)", x.told(0), turns);
        due.is("refused: told(7)", x.told(7), 1);
        due.is("refused: at(4)", x.at(4), 77);
        due.is("refused: events()", x.events(), 1);
        for (int w = 1; w <= 4; w++) {
            due.is("run(" + w + ", 0) is not refused", x.run(w, 0) > 0, true);
        }
    }

    private static void runOfNoCalls() {
        ParallelUndo x = new ParallelUndo();
        add(x, a(EVENT, 0, 0, 0));
        x.run(1, 1);
        x.clear();
        x.leaf(2, 6);
        due.is("run without calls", x.run(4, 1), 0);
        told("run without calls", x, 0, 0, 0, 0, 0, 0, 0, 0);
        due.is("run without calls: events()", x.events(), 0);
        due.is("run without calls: of(0, 0)", x.of(0, 0), NONE);
        due.is("run without calls: at(2)", x.at(2), 6);
    }

    /** Alone, a call takes a TURN to be taken, one to end, one to be taken for the LOOK and one to be looked at. */
    private static void runOfCallsWithoutActs() {
        ParallelUndo x = new ParallelUndo();
        add(x);
        add(x);
        add(x);
        due.is("three calls without acts", x.run(1, 3), 12);
        told("without acts", x, 12, 0, 3, 0, 0, 0, 3, 3);
        of("without acts", x, 2, 1, 0, 0, 0, 0, 2);
    }

    private static void runAlone() {
        ParallelUndo x = new ParallelUndo();
        add(x, a(SET, 0, 0, 9), a(WRITE, 0, 1, 4));
        add(x, a(READ, 2, 0, 4), a(EVENT, 2, 0, 0), a(WRITE, 2, 0, 5));
        due.is("alone", x.run(1, -7), (2 + 3) + (3 + 3));
        told("alone", x, 11, 0, 2, 0, 0, 5, 1, 2);
        of("alone", x, 0, 1, 2, 0, 0, 1, 0);
        of("alone", x, 1, 1, 3, 0, 1, 1, 0);
        due.is("alone: at(4)", x.at(4), 9);
        due.is("alone: at(5)", x.at(5), 9);
    }

    private static void arithmeticGoesRound() {
        ParallelUndo x = new ParallelUndo();
        int c = x.call();
        x.act(c, SET, 0, 0, Long.MAX_VALUE);
        x.act(c, SET, 1, 0, 2);
        x.act(c, SET, 2, 0, Long.MAX_VALUE);
        x.act(c, PLUS, 0, 1, 0);
        x.act(c, EVENT, 0, 0, 0);
        x.act(c, MINUS, 0, 1, 0);
        x.act(c, EVENT, 0, 0, 0);
        x.act(c, TIMES, 2, 1, 0);
        x.act(c, EVENT, 2, 0, 0);
        x.act(c, MINUS, 3, 3, 0);
        x.act(c, PLUS, 1, 1, 0);
        x.act(c, EVENT, 1, 0, 0);
        x.run(2, 2);
        due.is("r + s", x.event(0, 0), Long.MIN_VALUE + 1);
        due.is("r - s", x.event(1, 0), Long.MAX_VALUE);
        due.is("r * s", x.event(2, 0), -2);
        due.is("r + r", x.event(3, 0), 4);
    }

    private static void leavesGoRound() {
        ParallelUndo x = new ParallelUndo();
        int c = x.call();
        x.act(c, SET, 0, 0, 3);
        x.act(c, WRITE, 0, 1, -1);
        x.act(c, WRITE, 0, 0, 30);
        x.act(c, WRITE, 0, 1, Long.MIN_VALUE);
        x.act(c, WRITE, 0, 0, Long.MAX_VALUE);
        x.act(c, READ, 2, 0, 12);
        x.act(c, EVENT, 2, 0, 0);
        x.leaf(15, 44);
        x.run(1, 0);
        due.is("leaf -1 is 31", x.at(31), 3);
        due.is("leaf 33 is 1", x.at(1), 3);
        due.is("the least long is leaf 0", x.at(0), 3);
        due.is("the greatest and 3 is leaf 2", x.at(2), 3);
        due.is("a READ by a REGISTER", x.event(0, 0), 44);
        due.is("four were written", x.of(0, 4), 4);
    }

    private static void passing() {
        ParallelUndo x = new ParallelUndo();
        add(x, a(SET, 1, 0, 1), a(PASS, 0, 1, 2), a(EVENT, 1, 0, 0), a(EVENT, 1, 0, 0), a(EVENT, 0, 0, 0));
        add(x, a(PASS, 0, 1, 2), a(EVENT, 0, 0, 0), a(SET, 0, 0, -1), a(PASS, 0, 1, 12), a(EVENT, 0, 0, 0));
        add(x, a(SET, 0, 0, 1), a(PASS, 0, 1, 1), a(EVENT, 0, 0, 0));
        due.is("passing: turns", x.run(1, 0), (3 + 3) + (4 + 3) + (3 + 3));
        due.is("passing: events()", x.events(), 3);
        due.is("passed two of call 0", x.event(0, 0), 0);
        due.is("equal ones do not pass", x.event(1, 1), 1);
        due.is("a greater one does not pass", x.event(2, 0), 1);
        due.is("acts of call 0", x.of(0, 1), 3);
        due.is("acts of call 1", x.of(1, 1), 4);
        due.is("acts of call 2", x.of(2, 1), 3);
    }

    private static void ownWritesAreRead() {
        ParallelUndo x = new ParallelUndo();
        x.leaf(0, 7);
        add(x, a(SET, 0, 0, 5), a(WRITE, 0, 1, 0), a(READ, 2, 1, 0), a(EVENT, 2, 0, 0));
        add(x, a(READ, 0, 1, 0), a(SET, 2, 0, 6), a(WRITE, 2, 1, 0), a(READ, 0, 1, 0), a(EVENT, 0, 0, 0));
        x.run(1, 0);
        due.is("its own write", x.event(0, 0), 5);
        due.is("its own write behind a read", x.event(1, 0), 6);
        due.is("its own is not kept", x.of(0, 3), 0);
        due.is("what was read ahead of it is kept", x.of(1, 3), 1);
    }

    private static void keptOnce() {
        ParallelUndo x = new ParallelUndo();
        x.leaf(0, 7);
        add(x, a(READ, 0, 1, 0), a(READ, 2, 1, 0), a(READ, 2, 1, 32), a(READ, 3, 1, 9), a(EVENT, 2, 0, 0));
        x.run(1, 0);
        of("kept once", x, 0, 1, 5, 0, 2, 0, 0);
        due.is("a later read", x.event(0, 0), 7);
    }

    private static void failing() {
        ParallelUndo x = new ParallelUndo();
        x.leaf(3, 30);
        add(x, a(FAIL, 0, 0, 0), a(SET, 0, 0, -1), a(WRITE, 0, 1, 3), a(EVENT, 0, 0, 0), a(FAIL, 0, 0, 0),
            a(EVENT, 0, 0, 0));
        add(x, a(READ, 0, 1, 3), a(EVENT, 0, 0, 0));
        due.is("failing: inOrder(3)", x.inOrder(3), 30);
        due.is("failing: turns", x.run(1, 0), (5 + 3) + (2 + 3));
        of("failing", x, 0, 1, 5, 1, 0, 0, 0);
        of("not failing", x, 1, 1, 2, 0, 1, 0, 1);
        due.is("failing: events()", x.events(), 1);
        due.is("failing: event(0, 0)", x.event(0, 0), 30);
        due.is("failing: event(0, 1)", x.event(0, 1), 1);
        due.is("failing: at(3)", x.at(3), 30);
        due.is("failing: acts in all", x.told(5), 7);
        due.is("failing: groups", x.told(6), 2);
    }

    private static void failingKeepsWhatItRead() {
        ParallelUndo x = new ParallelUndo();
        add(x, a(SET, 0, 0, 1), a(WRITE, 0, 1, 3));
        add(x, a(READ, 0, 1, 3), a(SET, 1, 0, -1), a(FAIL, 1, 0, 0));
        x.run(1, 0);
        of("failed by what it read", x, 1, 1, 3, 1, 1, 0, 0);
        due.is("it is of the group of what it saw", x.told(6), 1);
    }

    private static void inOrderChangesNothing() {
        ParallelUndo x = new ParallelUndo();
        x.leaf(0, 2);
        add(x, a(READ, 0, 1, 0), a(PLUS, 0, 0, 0), a(WRITE, 0, 1, 0), a(EVENT, 0, 0, 0));
        add(x, a(READ, 0, 1, 0), a(TIMES, 0, 0, 0), a(WRITE, 0, 1, 0));
        x.run(1, 0);
        due.is("at(0) behind a run", x.at(0), 16);
        due.is("inOrder(0)", x.inOrder(0), 1024);
        due.is("inOrder(0) again", x.inOrder(0), 1024);
        due.is("inOrder of a leaf that is not written", x.inOrder(1), 0);
        due.is("at(0) is as it was", x.at(0), 16);
        due.is("event(0, 0) is as it was", x.event(0, 0), 4);
        due.is("of(0, 0) is as it was", x.of(0, 0), 1);
        due.is("told(5) is as it was", x.told(5), 7);
    }

    private static void eventsByOrder() {
        ParallelUndo x = new ParallelUndo();
        add(x, a(SET, 0, 0, 10), a(EVENT, 0, 0, 0), a(EVENT, 1, 0, 0));
        add(x);
        add(x, a(SET, 0, 0, 20), a(EVENT, 0, 0, 0));
        for (int seed = 0; seed < 20; seed++) {
            x.run(3, seed);
            long[][] want = {{10, 0}, {0, 0}, {20, 2}};
            due.is("events()", x.events(), 3);
            for (int i = 0; i < 3; i++) {
                due.is("event(" + i + ", 0)", x.event(i, 0), want[i][0]);
                due.is("event(" + i + ", 1)", x.event(i, 1), want[i][1]);
            }
        }
        due.is("event(2, 2)", x.event(2, 2), 0);
        due.is("event(2, -1)", x.event(2, -1), 0);
        due.is("event(3, 1)", x.event(3, 1), 0);
        due.is("event(-1, 0)", x.event(-1, 0), 0);
        due.is("event(MAX, 0)", x.event(MAX, 0), 0);
        due.is("event(MIN, 0)", x.event(MIN, 0), 0);
    }

    private static void groupsJoin() {
        ParallelUndo x = new ParallelUndo();
        add(x, a(WRITE, 0, 0, 1));
        add(x, a(WRITE, 0, 0, 2));
        add(x, a(READ, 0, 0, 3));
        add(x, a(READ, 0, 0, 4));
        add(x, a(READ, 0, 1, 2), a(READ, 0, 1, 3));
        add(x, a(READ, 0, 1, 1), a(WRITE, 0, 1, 2));
        add(x, a(READ, 0, 0, 4));
        for (int w = 1; w <= 4; w++) {
            x.run(w, w);
            int[] want = {0, 0, 0, 3, 0, 0, 3};
            for (int c = 0; c < want.length; c++) {
                due.is("group of " + c, x.of(c, 5), want[c]);
            }
            due.is("groups", x.told(6), 2);
        }
    }

    private static void groupsOfAFailedCall() {
        ParallelUndo x = new ParallelUndo();
        add(x, a(WRITE, 0, 0, 1));
        add(x, a(WRITE, 0, 0, 1), a(READ, 0, 0, 2), a(SET, 0, 0, -1), a(FAIL, 0, 0, 0));
        add(x, a(WRITE, 0, 0, 2));
        x.run(1, 0);
        due.is("a failed call wrote nothing", x.of(1, 5), 1);
        due.is("a failed call saw", x.of(2, 5), 1);
        due.is("groups with a failed call", x.told(6), 2);
    }

    private static void undoneTurnByTurn() {
        ParallelUndo x = writerAndReader();
        due.is("undone: turns", x.run(2, Turns.seedFor(2, UNDO_TURNS)), 14);
        told("undone", x, 14, 0, 3, 1, 0, 6, 1, 2);
        of("undone", x, 0, 1, 2, 0, 0, 1, 0);
        of("undone", x, 1, 2, 2, 0, 1, 0, 0);
        conflicts("undone", x, 1, 0);
        due.is("undone: events()", x.events(), 1);
        due.is("undone: event(0, 0)", x.event(0, 0), 5);
        due.is("undone: at(3)", x.at(3), 5);
        x.clear();
        x.run(1, 0);
        conflicts("a later run has its own", x);
    }

    private static void fallenTurnByTurn() {
        ParallelUndo x = writerAndReader();
        x.bound(1);
        due.is("fallen: turns", x.run(2, Turns.seedFor(2, UNDO_TURNS)), 11);
        told("fallen", x, 11, 1, 2, 1, 0, 8, 1, 2);
        of("fallen", x, 0, 2, 2, 0, 0, 1, 0);
        of("fallen", x, 1, 2, 2, 0, 1, 0, 0);
        conflicts("fallen", x, 1, 0);
        due.is("fallen: events()", x.events(), 1);
        due.is("fallen: event(0, 0)", x.event(0, 0), 5);
        due.is("fallen: at(3)", x.at(3), 5);
    }

    private static void boundOfTwoDoesNotFall() {
        ParallelUndo x = writerAndReader();
        x.bound(2);
        x.bound(0);
        x.bound(101);
        due.is("bound 2: turns", x.run(2, Turns.seedFor(2, UNDO_TURNS)), 14);
        due.is("bound 2: told(1)", x.told(1), 0);
    }

    /*
     * 1 w0 takes 0. 2 w1: V 1. 3 - 5 w1 takes and ends 1 (LEAF 0 of NONE). 6, 7 w0 ends 0, V 0.
     * 8, 9 w0 looks at 0. 10 w0 takes the look at 1, V 2. 11 w1 takes 2, R 3. 12 w0: 1 is undone by 0 and run.
     * 13 w1: LEAF 1 is PERHAPS of 1, 2 waits. 14, 15 w0 ends 1: nothing new, 2 is ready, R 2. 16 w0 looks at 1.
     * Whoever comes then: 2 is run once more and looked at once.
     */
    private static void givenUpTurnByTurn() {
        ParallelUndo x = new ParallelUndo();
        add(x, a(SET, 0, 0, 7), a(WRITE, 0, 1, 0));
        add(x, a(READ, 0, 1, 0), a(WRITE, 0, 1, 1));
        add(x, a(READ, 0, 1, 1), a(EVENT, 0, 0, 0));
        int turns = x.run(2, Turns.seedFor(2, 0, 1, 1, 1, 1, 0, 0, 0, 0, 0, 1, 0, 1, 0, 0, 0));
        told("given up", x, turns, 0, 4, 1, 1, 8, 1, 3);
        of("given up", x, 0, 1, 2, 0, 0, 1, 0);
        of("given up", x, 1, 2, 2, 0, 1, 1, 0);
        of("given up", x, 2, 2, 2, 0, 1, 0, 0);
        conflicts("given up", x, 1, 0, 2, 1);
        due.is("given up: event(0, 0)", x.event(0, 0), 7);
        due.is("given up: at(1)", x.at(1), 7);
    }

    /*
     * Call 1 writes LEAF 6 when it reads 5 of LEAF 0, and LEAF 1 when it reads 0.
     * 1 w0 takes 0. 2 w1: V 1. 3 - 5 w1 ends 1: LEAF 6. 6, 7 w1 looks at 1. 8, 9 w1 ends 2, which reads LEAF 6 of 1.
     * 10 w0 ends 0, V 0. 11, 12 looks at 0. 13, 14 looks at 1: undone by 0 and run. 15, 16 ends 1: LEAF 1, V 1.
     * Whoever comes then: 1 is looked at, and 2, which sees LEAF 6 of NONE, is undone, run and looked at.
     */
    private static void seenNoMoreTurnByTurn() {
        ParallelUndo x = new ParallelUndo();
        x.leaf(0, 5);
        add(x, a(WRITE, 0, 0, 0));
        add(x, a(READ, 0, 1, 0), a(WRITE, 0, 0, 1));
        add(x, a(READ, 1, 0, 6));
        int turns = x.run(2, Turns.seedFor(2, 0, 1, 1, 1, 1, 1, 1, 1, 1, 0, 0, 0, 0, 0, 0, 0));
        told("seen no more", x, turns, 0, 6, 2, 0, 7, 2, 3);
        conflicts("seen no more", x, 1, 0, 2, NONE);
        of("seen no more", x, 1, 2, 2, 0, 1, 1, 0);
        of("seen no more", x, 2, 2, 1, 0, 1, 0, 2);
        due.is("seen no more: at(6)", x.at(6), 0);
        due.is("seen no more: at(1)", x.at(1), 0);
    }

    /*
     * 1 w0 takes 0. 2 w1: V 1. 3 - 5 w1 ends 1 (LEAF 3 of NONE). 6 w1 takes the look at 1, V 2. 7, 8 w0 ends 0, V 0.
     * 9, 10 w0 looks at 0. 11, 12 w0 looks at 1: undone by 0 and run. 13 w1: its look at 1 comes too late.
     * Whoever comes then: 1 is ended by w0, which looks at it, for V is above it.
     */
    private static void lookThatComesTooLate() {
        ParallelUndo x = writerAndReader();
        int turns = x.run(2, Turns.seedFor(2, 0, 1, 1, 1, 1, 1, 0, 0, 0, 0, 0, 0, 1));
        told("too late", x, turns, 0, 4, 1, 0, 6, 1, 2);
        of("too late", x, 1, 2, 2, 0, 1, 0, 0);
        conflicts("too late", x, 1, 0);
    }

    /*
     * 1 w0 takes 0. 2 w1: V 1. 3 w1 takes 1. 4 w2: V 2. 5 - 7 w2 ends 2 (LEAVES 3 and 4 of NONE). 8 w2 takes the look
     * at its run 0, V 3. 9 w1 ends 1, V 1. 10, 11 w1 looks at 1. 12, 13 w1 looks at 2: undone by 1 and run.
     * 14, 15 w1 ends its run 1 and is to look at it. 16 w0 ends 0, V 0. 17 w2: too late for run 0, though run 1 is
     * to be undone by now. 18 w1 looks at run 1: undone by 0, and by BOUND 2 all falls.
     */
    private static void lateLookAtAnotherRun() {
        int[] order = {0, 1, 1, 2, 2, 2, 2, 2, 1, 1, 1, 1, 1, 1, 1, 0, 2, 1};
        int seed = 403311261;
        due.is("the seed has its turns", Turns.begins(3, seed, order), true);
        ParallelUndo x = new ParallelUndo();
        x.bound(2);
        add(x, a(WRITE, 0, 0, 4));
        add(x, a(WRITE, 0, 0, 3));
        add(x, a(READ, 0, 1, 3), a(READ, 0, 1, 4));
        due.is("late look at another run: turns", x.run(3, seed), 18);
        told("late look at another run", x, 18, 1, 4, 2, 0, 10, 1, 3);
        of("late look at another run", x, 2, 3, 2, 0, 2, 0, 0);
        conflicts("late look at another run", x, 2, 1, 2, 0);
    }

    /*
     * Call 2 reads LEAF 9, of 1 later on, ahead of LEAF 2, of 0 later on: the order of the reads counts.
     * 1 w0 takes 0. 2 w1: V 1. 3 w1 takes 1. 4 w2: V 2. 5 w2 takes 2. 6, 7 w2 ends 2. 8 w0 ends 0, V 0. 9 w1 ends 1, V 0.
     * Whoever comes then: 0, 1 and 2 are looked at, and 2 is undone by 1.
     */
    private static void conflictIsOfTheFirstKept() {
        ParallelUndo x = new ParallelUndo();
        add(x, a(WRITE, 0, 0, 2));
        add(x, a(WRITE, 0, 0, 9));
        add(x, a(READ, 0, 1, 9), a(READ, 0, 1, 2));
        int turns = x.run(3, Turns.seedFor(3, 0, 1, 1, 2, 2, 2, 2, 0, 1));
        told("first kept", x, turns, 0, 4, 1, 0, 6, 1, 3);
        conflicts("first kept", x, 2, 1);
    }
}
