import java.util.Arrays;

/**
 * Calls of a block run by several workers at once, with the answers that they would have in order.
 * What it must do is written in ../shared/DOC.md; the words in capitals there are the words used here.
 */
public final class ParallelUndo {
    public static final int NONE = -1;

    private static final int LEAVES = 32;
    private static final int CALLS = 16;
    private static final int ACTS = 12;
    private static final int REGISTERS = 4;
    private static final int WORKERS = 4;
    private static final int FIRST_BOUND = 8;
    private static final int GREATEST_BOUND = 100;

    private final long[] leaves;
    private final Block block;
    private final Workers latest;
    /** Apart from the latest run, so that inOrder leaves what that run tells as it is. */
    private final Bench trial;
    private int fallBound;

    public ParallelUndo() {
        leaves = new long[LEAVES];
        block = new Block();
        latest = new Workers();
        trial = new Bench();
        fallBound = FIRST_BOUND;
    }

    public int call() {
        return block.addCall();
    }

    public int act(int call, int kind, int r, int s, long v) {
        if (!Kinds.allows(kind, r, s, v)) {
            return NONE;
        }
        return block.addAct(call, kind, r, s, v);
    }

    public int clear() {
        return block.dropCalls();
    }

    public boolean leaf(int k, long v) {
        if (!isLeaf(k)) {
            return false;
        }
        leaves[k] = v;
        return true;
    }

    public boolean bound(int b) {
        if (b < 1 || b > GREATEST_BOUND) {
            return false;
        }
        fallBound = b;
        return true;
    }

    public int run(int workers, int seed) {
        if (workers < 1 || workers > WORKERS) {
            return NONE;
        }
        latest.open(block, leaves, workers, fallBound);
        latest.work(block, seed);
        for (int k = 0; k < LEAVES; k++) {
            leaves[k] = latest.bench.table.valueAfter(k);
        }
        return latest.turns;
    }

    public long at(int k) {
        return isLeaf(k) ? leaves[k] : 0;
    }

    public long inOrder(int k) {
        if (!isLeaf(k)) {
            return 0;
        }
        trial.open(block, leaves);
        trial.runOneByOne(block);
        return trial.table.valueAfter(k);
    }

    public int events() {
        return latest.bench.countEvents();
    }

    public long event(int i, int what) {
        return latest.bench.tellEvent(i, what);
    }

    public int of(int call, int what) {
        return latest.bench.tellCall(call, what);
    }

    public int conflicts() {
        return latest.conflicts.count;
    }

    public int conflict(int i, int what) {
        return latest.conflicts.tell(i, what);
    }

    public int told(int what) {
        return latest.tell(what);
    }

    private static boolean isLeaf(int k) {
        return k >= 0 && k < LEAVES;
    }

    /** The kinds of ACTS, and what each of them may be told with. */
    private static final class Kinds {
        static final int SET = 0;
        static final int READ = 1;
        static final int WRITE = 2;
        static final int PLUS = 3;
        static final int MINUS = 4;
        static final int TIMES = 5;
        static final int PASS = 6;
        static final int EVENT = 7;
        static final int FAIL = 8;

        static boolean allows(int kind, int r, int s, long v) {
            return kind >= SET && kind <= FAIL
                && isRegister(r)
                && (hasSecond(kind) ? isRegister(s) : s == 0)
                && allowsValue(kind, v);
        }

        private static boolean isRegister(int r) {
            return r >= 0 && r < REGISTERS;
        }

        private static boolean hasSecond(int kind) {
            return kind >= READ && kind <= PASS;
        }

        private static boolean allowsValue(int kind, long v) {
            if (kind <= WRITE) {
                return true;
            }
            return kind == PASS ? v >= 1 && v <= ACTS : v == 0;
        }
    }

    /** The CALLS and their ACTS, as they were told. */
    private static final class Block {
        int calls;
        private final int[] acts = new int[CALLS];
        /** By call and ACT. */
        final int[] kind = new int[CALLS * ACTS];
        final int[] first = new int[CALLS * ACTS];
        final int[] second = new int[CALLS * ACTS];
        final long[] value = new long[CALLS * ACTS];

        int addCall() {
            if (calls >= CALLS) {
                return NONE;
            }
            acts[calls] = 0;
            calls++;
            return calls - 1;
        }

        /** The kind, r, s and v are allowed ones (Kinds.allows). */
        int addAct(int c, int k, int r, int s, long v) {
            if (c < 0 || c >= calls || acts[c] >= ACTS) {
                return NONE;
            }
            int place = c * ACTS + acts[c];
            kind[place] = k;
            first[place] = r;
            second[place] = s;
            value[place] = v;
            acts[c]++;
            return acts[c];
        }

        int dropCalls() {
            int dropped = calls;
            calls = 0;
            return dropped;
        }

        boolean hasAct(int c, int i) {
            return c >= 0 && c < calls && i >= 0 && i < acts[c];
        }
    }

    /** What the CALLS wrote in their latest runs that ENDED, by LEAF and call, over the LEAVES before the block. */
    private static final class Table {
        private static final int ABSENT = 0;
        private static final int WRITTEN = 1;
        private static final int PERHAPS = 2;

        private final long[] before = new long[LEAVES];
        private final int[] state = new int[LEAVES * CALLS];
        private final int[] number = new int[LEAVES * CALLS];
        private final long[] value = new long[LEAVES * CALLS];

        void open(long[] leaves) {
            System.arraycopy(leaves, 0, before, 0, LEAVES);
            Arrays.fill(state, ABSENT);
        }

        /** The greatest call below this one that has an entry, written or PERHAPS. */
        int writerBelow(int k, int c) {
            for (int j = c - 1; j >= 0; j--) {
                if (state[k * CALLS + j] != ABSENT) {
                    return j;
                }
            }
            return NONE;
        }

        boolean isPerhaps(int k, int writer) {
            return writer != NONE && state[k * CALLS + writer] == PERHAPS;
        }

        int numberOf(int k, int writer) {
            return writer == NONE ? NONE : number[k * CALLS + writer];
        }

        long valueOf(int k, int writer) {
            return writer == NONE ? before[k] : value[k * CALLS + writer];
        }

        long valueAfter(int k) {
            return valueOf(k, writerBelow(k, CALLS));
        }

        /** Answers whether a LEAF was written that the call had no entry of. */
        boolean publish(Attempt a, int runNumber) {
            boolean fresh = false;
            for (int k = 0; k < LEAVES; k++) {
                int place = k * CALLS + a.self;
                if (a.hasWritten(k)) {
                    fresh = fresh || state[place] == ABSENT;
                    state[place] = WRITTEN;
                    number[place] = runNumber;
                    value[place] = a.written[k];
                } else {
                    state[place] = ABSENT;
                }
            }
            return fresh;
        }

        void doubt(int c) {
            for (int k = 0; k < LEAVES; k++) {
                if (state[k * CALLS + c] != ABSENT) {
                    state[k * CALLS + c] = PERHAPS;
                }
            }
        }
    }

    /** One call's latest run: its REGISTERS, what it kept of its READS, what it wrote, its EVENTS. */
    private static final class Attempt {
        final int self;
        int began;
        int doneInAll;
        int done;
        boolean failed;
        int kept;
        int eventCount;
        int group;
        final long[] written = new long[LEAVES];
        final long[] eventValue = new long[ACTS];
        private int next;
        /** A bit for each LEAF. */
        private int keptMask;
        private int writtenMask;
        private final long[] register = new long[REGISTERS];
        private final long[] keptValue = new long[LEAVES];
        /** By the order of the READS, which tells the LEAF of a CONFLICT. */
        private final int[] keptLeaf = new int[ACTS];
        private final int[] keptWriter = new int[ACTS];
        private final int[] keptNumber = new int[ACTS];

        Attempt(int c) {
            self = c;
        }

        void open() {
            began = 0;
            doneInAll = 0;
        }

        void begin() {
            began++;
            next = 0;
            done = 0;
            failed = false;
            kept = 0;
            keptMask = 0;
            writtenMask = 0;
            eventCount = 0;
            Arrays.fill(register, 0L);
        }

        boolean isOver(Block block) {
            return failed || !block.hasAct(self, next);
        }

        boolean hasWritten(int k) {
            return (writtenMask & (1 << k)) != 0;
        }

        int countWritten() {
            return Integer.bitCount(writtenMask);
        }

        boolean touched(int k) {
            return ((keptMask | writtenMask) & (1 << k)) != 0;
        }

        /** Does the next ACT, if one is left; answers the call whose PERHAPS hinders it, or NONE. */
        int doNext(Block block, Table table) {
            if (isOver(block)) {
                return NONE;
            }
            int place = self * ACTS + next;
            int kind = block.kind[place];
            int r = block.first[place];
            int s = block.second[place];
            long v = block.value[place];
            if (kind == Kinds.READ) {
                int hindering = read(r, leafAt(s, v), table);
                if (hindering != NONE) {
                    return hindering;
                }
            } else {
                perform(kind, r, s, v);
            }
            next++;
            done++;
            doneInAll++;
            return NONE;
        }

        private int leafAt(int s, long v) {
            return (int) ((v + register[s]) & (LEAVES - 1));
        }

        private int read(int r, int k, Table table) {
            if (hasWritten(k)) {
                register[r] = written[k];
                return NONE;
            }
            if ((keptMask & (1 << k)) == 0) {
                int writer = table.writerBelow(k, self);
                if (table.isPerhaps(k, writer)) {
                    return writer;
                }
                keep(k, writer, table.numberOf(k, writer), table.valueOf(k, writer));
            }
            register[r] = keptValue[k];
            return NONE;
        }

        private void keep(int k, int writer, int runNumber, long v) {
            if (kept >= ACTS) {
                return;
            }
            keptLeaf[kept] = k;
            keptWriter[kept] = writer;
            keptNumber[kept] = runNumber;
            keptValue[k] = v;
            keptMask |= 1 << k;
            kept++;
        }

        private void perform(int kind, int r, int s, long v) {
            switch (kind) {
                case Kinds.SET:
                    register[r] = v;
                    break;
                case Kinds.WRITE:
                    write(leafAt(s, v), register[r]);
                    break;
                case Kinds.PLUS:
                    register[r] += register[s];
                    break;
                case Kinds.MINUS:
                    register[r] -= register[s];
                    break;
                case Kinds.TIMES:
                    register[r] *= register[s];
                    break;
                case Kinds.PASS:
                    if (register[r] < register[s]) {
                        next += (int) v;
                    }
                    break;
                case Kinds.EVENT:
                    raise(register[r]);
                    break;
                default:
                    if (register[r] < 0) {
                        fail();
                    }
                    break;
            }
        }

        private void write(int k, long v) {
            written[k] = v;
            writtenMask |= 1 << k;
        }

        private void raise(long v) {
            if (eventCount < ACTS) {
                eventValue[eventCount] = v;
                eventCount++;
            }
        }

        /** What was kept stays: a failing call depends on what it READ, too. */
        private void fail() {
            failed = true;
            writtenMask = 0;
            eventCount = 0;
        }

        /** The LEAF of the first one kept that is SEEN otherwise now, or NONE. */
        int firstChanged(Table table) {
            for (int i = 0; i < kept; i++) {
                int k = keptLeaf[i];
                int writer = table.writerBelow(k, self);
                if (writer != keptWriter[i] || table.isPerhaps(k, writer)
                        || table.numberOf(k, writer) != keptNumber[i]) {
                    return k;
                }
            }
            return NONE;
        }
    }

    /** The CALLS of one block with their runs and the table that they share. */
    private static final class Bench {
        final Table table = new Table();
        final Attempt[] attempts = new Attempt[CALLS];
        int calls;

        Bench() {
            for (int c = 0; c < CALLS; c++) {
                attempts[c] = new Attempt(c);
            }
        }

        void open(Block block, long[] leaves) {
            calls = block.calls;
            table.open(leaves);
            for (int c = 0; c < CALLS; c++) {
                attempts[c].open();
            }
        }

        /** IN ORDER: a call sees the entries below it alone, and those are all of this row of runs by then. */
        void runOneByOne(Block block) {
            for (int c = 0; c < calls; c++) {
                Attempt a = attempts[c];
                a.begin();
                for (int i = 0; i < ACTS && !a.isOver(block); i++) {
                    a.doNext(block, table);
                }
                table.publish(a, 0);
            }
        }

        void formGroups() {
            for (int c = 0; c < calls; c++) {
                attempts[c].group = c;
            }
            for (int k = 0; k < LEAVES; k++) {
                joinTouching(k);
            }
        }

        private void joinTouching(int k) {
            int least = NONE;
            for (int c = 0; c < calls; c++) {
                if (attempts[c].touched(k)) {
                    if (least == NONE) {
                        least = c;
                    }
                    joinGroups(attempts[least].group, attempts[c].group);
                }
            }
        }

        private void joinGroups(int one, int other) {
            int least = Math.min(one, other);
            for (int c = 0; c < calls; c++) {
                Attempt a = attempts[c];
                if (a.group == one || a.group == other) {
                    a.group = least;
                }
            }
        }

        int countGroups() {
            int count = 0;
            for (int c = 0; c < calls; c++) {
                if (attempts[c].group == c) {
                    count++;
                }
            }
            return count;
        }

        int countActs() {
            int count = 0;
            for (int c = 0; c < calls; c++) {
                count += attempts[c].doneInAll;
            }
            return count;
        }

        int countEvents() {
            int count = 0;
            for (int c = 0; c < calls; c++) {
                count += attempts[c].eventCount;
            }
            return count;
        }

        long tellEvent(int i, int what) {
            if (i < 0 || what < 0 || what > 1) {
                return 0;
            }
            int left = i;
            for (int c = 0; c < calls; c++) {
                Attempt a = attempts[c];
                if (left < a.eventCount) {
                    return what == 0 ? a.eventValue[left] : c;
                }
                left -= a.eventCount;
            }
            return 0;
        }

        int tellCall(int c, int what) {
            if (c < 0 || c >= calls) {
                return NONE;
            }
            Attempt a = attempts[c];
            switch (what) {
                case 0:
                    return a.began;
                case 1:
                    return a.done;
                case 2:
                    return a.failed ? 1 : 0;
                case 3:
                    return a.kept;
                case 4:
                    return a.countWritten();
                case 5:
                    return a.group;
                default:
                    return NONE;
            }
        }
    }

    /** The CONFLICTS of one run of the block: all are counted, the first ones are kept. */
    private static final class Conflicts {
        private static final int KEPT = 200;
        private static final int NO_SUCH = -2;

        int count;
        private final int[] hit = new int[KEPT];
        private final int[] by = new int[KEPT];

        void note(int c, int other) {
            if (count < KEPT) {
                hit[count] = c;
                by[count] = other;
            }
            count++;
        }

        int tell(int i, int what) {
            if (i < 0 || i >= count || i >= KEPT || what < 0 || what > 1) {
                return NO_SUCH;
            }
            return what == 0 ? hit[i] : by[i];
        }
    }

    /** The WORKERS with their TASKS, the run row and the look row, and the tally of the latest run. */
    private static final class Workers {
        private static final int READY = 0;
        private static final int RUNNING = 1;
        private static final int ENDED = 2;
        private static final int WAITS = 3;

        private static final int IDLE = 0;
        private static final int RUN = 1;
        private static final int LOOK = 2;

        /** Far above what a block can need: 16 CALLS, each undone fewer than 100 times. */
        private static final int MOST_TURNS = 1_000_000;

        final Bench bench = new Bench();
        final Conflicts conflicts = new Conflicts();
        int turns;
        private int looks;
        private int undone;
        private int givenUp;
        private boolean fell;
        private int size;
        private int fallBound;
        private int runRow;
        private int lookRow;
        private final int[] status = new int[CALLS];
        private final int[] awaited = new int[CALLS];
        private final int[] number = new int[CALLS];
        private final int[] task = new int[WORKERS];
        private final int[] taskCall = new int[WORKERS];
        private final int[] taskNumber = new int[WORKERS];

        void open(Block block, long[] leaves, int workers, int b) {
            bench.open(block, leaves);
            conflicts.count = 0;
            turns = 0;
            looks = 0;
            undone = 0;
            givenUp = 0;
            fell = false;
            size = workers;
            fallBound = b;
            runRow = 0;
            lookRow = 0;
            Arrays.fill(status, READY);
            Arrays.fill(awaited, NONE);
            Arrays.fill(number, 0);
            Arrays.fill(task, IDLE);
        }

        /** Opened ahead of this, with 1 .. 4 workers. */
        void work(Block block, int seed) {
            int x = seed;
            while (turns < MOST_TURNS && size > 0 && !fell && !isDone()) {
                turns++;
                x = x * 1103515245 + 12345;
                step((x >>> 16) % size, block);
            }
            if (fell) {
                bench.runOneByOne(block);
            }
            bench.formGroups();
        }

        private boolean isDone() {
            if (runRow < bench.calls || lookRow < bench.calls) {
                return false;
            }
            for (int w = 0; w < size; w++) {
                if (task[w] != IDLE) {
                    return false;
                }
            }
            return true;
        }

        private void step(int w, Block block) {
            switch (task[w]) {
                case RUN:
                    goOn(w, block);
                    break;
                case LOOK:
                    look(w);
                    break;
                default:
                    takeTask(w);
                    break;
            }
        }

        private void takeTask(int w) {
            if (lookRow < runRow) {
                int c = lookRow;
                lookRow++;
                if (status[c] == ENDED) {
                    giveLook(w, c);
                }
            } else if (runRow < bench.calls) {
                int c = runRow;
                runRow++;
                if (status[c] == READY) {
                    giveRun(w, c);
                }
            }
        }

        private void giveLook(int w, int c) {
            task[w] = LOOK;
            taskCall[w] = c;
            taskNumber[w] = number[c];
        }

        private void giveRun(int w, int c) {
            task[w] = RUN;
            taskCall[w] = c;
            status[c] = RUNNING;
            bench.attempts[c].begin();
        }

        private void goOn(int w, Block block) {
            int c = taskCall[w];
            Attempt a = bench.attempts[c];
            int hindering = a.doNext(block, bench.table);
            if (hindering != NONE) {
                giveUp(w, c, hindering);
            } else if (a.isOver(block)) {
                end(w, c);
            }
        }

        private void giveUp(int w, int c, int other) {
            task[w] = IDLE;
            status[c] = WAITS;
            awaited[c] = other;
            givenUp++;
            conflicts.note(c, other);
        }

        private void end(int w, int c) {
            task[w] = IDLE;
            boolean fresh = bench.table.publish(bench.attempts[c], number[c]);
            status[c] = ENDED;
            wakeThoseWaitingFor(c);
            if (lookRow > c) {
                if (fresh) {
                    lookRow = c;
                } else {
                    giveLook(w, c);
                }
            }
        }

        private void wakeThoseWaitingFor(int c) {
            for (int i = 0; i < bench.calls; i++) {
                if (status[i] == WAITS && awaited[i] == c) {
                    status[i] = READY;
                    runRow = Math.min(runRow, i);
                }
            }
        }

        private void look(int w) {
            int c = taskCall[w];
            task[w] = IDLE;
            looks++;
            if (status[c] != ENDED || number[c] != taskNumber[w]) {
                return;
            }
            int changed = bench.attempts[c].firstChanged(bench.table);
            if (changed != NONE) {
                conflicts.note(c, bench.table.writerBelow(changed, c));
                undo(c);
                if (!fell && runRow > c) {
                    giveRun(w, c);
                }
            }
        }

        private void undo(int c) {
            undone++;
            bench.table.doubt(c);
            number[c]++;
            status[c] = READY;
            lookRow = Math.min(lookRow, c + 1);
            fell = number[c] >= fallBound;
        }

        int tell(int what) {
            switch (what) {
                case 0:
                    return turns;
                case 1:
                    return fell ? 1 : 0;
                case 2:
                    return looks;
                case 3:
                    return undone;
                case 4:
                    return givenUp;
                case 5:
                    return bench.countActs();
                case 6:
                    return bench.countGroups();
                case 7:
                    return bench.calls;
                default:
                    return NONE;
            }
        }
    }
}
