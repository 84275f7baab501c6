import java.util.ArrayList;
import java.util.Collections;
import java.util.HashMap;
import java.util.LinkedHashMap;
import java.util.List;
import java.util.Map;
import java.util.Set;
import java.util.TreeMap;
import java.util.TreeSet;
import java.util.stream.IntStream;

/**
 * The document written down a second time, in another shape than the class (maps, objects, fresh for
 * every run) and by hand from its words, so that a slip in one of the two shows as a difference.
 */
final class Model {
    static final int NONE = -1;

    record Act(int kind, int r, int s, long v) { }

    record Seen(int call, int run, boolean perhaps, long value) {
        boolean sameAs(Seen other) {
            return call == other.call && run == other.run && perhaps == other.perhaps;
        }
    }

    record Entry(int run, boolean perhaps, long value) { }

    enum State { READY, RUNNING, ENDED, WAIT }

    static final class Call {
        final int me;
        final List<Act> acts;
        State state = State.READY;
        int waitsFor = NONE;
        int run = 0;
        int began = 0;
        int did = 0;
        int next = 0;
        boolean failed = false;
        long[] reg = new long[4];
        Map<Integer, Seen> kept = new LinkedHashMap<>();
        Map<Integer, Long> writes = new HashMap<>();
        List<Long> events = new ArrayList<>();

        Call(int me, List<Act> acts) {
            this.me = me;
            this.acts = acts;
        }

        void begin() {
            began++;
            did = 0;
            next = 0;
            failed = false;
            reg = new long[4];
            kept = new LinkedHashMap<>();
            writes = new HashMap<>();
            events = new ArrayList<>();
        }
    }

    static final class Worker {
        Call running = null;
        Call looking = null;
        int lookRun = 0;

        boolean free() {
            return running == null && looking == null;
        }
    }

    final long[] leaves = new long[32];
    final List<List<Act>> block = new ArrayList<>();
    int bound = 8;

    // the latest run
    private List<Call> calls = new ArrayList<>();
    private List<Worker> workers = new ArrayList<>();
    private Map<Integer, TreeMap<Integer, Entry>> table = new HashMap<>();
    private List<int[]> conflicts = new ArrayList<>();
    private int runRow;
    private int lookRow;
    private int turns;
    private int looks;
    private int undone;
    private int waits;
    private int actsDone;
    private boolean fell;
    private int[] groups = {};

    int call() {
        if (block.size() == 16) {
            return NONE;
        }
        block.add(new ArrayList<>());
        return block.size() - 1;
    }

    int act(int call, int kind, int r, int s, long v) {
        boolean twoRegisters = List.of(1, 2, 3, 4, 5, 6).contains(kind);
        boolean anyValue = List.of(0, 1, 2).contains(kind);
        if (call < 0 || call >= block.size() || kind < 0 || kind > 8 || r < 0 || r > 3 || s < 0 || s > 3) {
            return NONE;
        }
        if (!twoRegisters && s != 0) {
            return NONE;
        }
        if (kind == 6 && (v < 1 || v > 12)) {
            return NONE;
        }
        if (!anyValue && kind != 6 && v != 0) {
            return NONE;
        }
        if (block.get(call).size() == 12) {
            return NONE;
        }
        block.get(call).add(new Act(kind, r, s, v));
        return block.get(call).size();
    }

    int clear() {
        int were = block.size();
        block.clear();
        return were;
    }

    boolean leaf(int k, long v) {
        if (k < 0 || k > 31) {
            return false;
        }
        leaves[k] = v;
        return true;
    }

    boolean bound(int b) {
        if (b < 1 || b > 100) {
            return false;
        }
        bound = b;
        return true;
    }

    long at(int k) {
        return k < 0 || k > 31 ? 0 : leaves[k];
    }

    long inOrder(int k) {
        if (k < 0 || k > 31) {
            return 0;
        }
        long[] now = leaves.clone();
        for (List<Act> acts : block) {
            plainly(acts, now);
        }
        return now[k];
    }

    /** One call alone on LEAVES, without any table. */
    private static void plainly(List<Act> acts, long[] now) {
        long[] mine = now.clone();
        long[] reg = new long[4];
        for (int i = 0; i < acts.size(); i++) {
            Act a = acts.get(i);
            int at = (int) Math.floorMod(a.v + reg[a.s], 32L);
            switch (a.kind) {
                case 0 -> reg[a.r] = a.v;
                case 1 -> reg[a.r] = mine[at];
                case 2 -> mine[at] = reg[a.r];
                case 3 -> reg[a.r] = reg[a.r] + reg[a.s];
                case 4 -> reg[a.r] = reg[a.r] - reg[a.s];
                case 5 -> reg[a.r] = reg[a.r] * reg[a.s];
                case 6 -> i += reg[a.r] < reg[a.s] ? (int) a.v : 0;
                case 7 -> { }
                default -> {
                    if (reg[a.r] < 0) {
                        return;
                    }
                }
            }
        }
        System.arraycopy(mine, 0, now, 0, 32);
    }

    int run(int w, int seed) {
        if (w < 1 || w > 4) {
            return NONE;
        }
        calls = new ArrayList<>();
        for (int i = 0; i < block.size(); i++) {
            calls.add(new Call(i, new ArrayList<>(block.get(i))));
        }
        workers = new ArrayList<>();
        for (int i = 0; i < w; i++) {
            workers.add(new Worker());
        }
        table = new HashMap<>();
        conflicts = new ArrayList<>();
        runRow = lookRow = turns = looks = undone = waits = actsDone = 0;
        fell = false;
        long x = seed & 0xffffffffL;
        while (!done() && !fell) {
            x = (x * 1103515245L + 12345L) & 0xffffffffL;
            turns++;
            step(workers.get((int) ((x >> 16) % w)));
        }
        if (fell) {
            fall();
        }
        for (Map.Entry<Integer, TreeMap<Integer, Entry>> e : table.entrySet()) {
            if (!e.getValue().isEmpty()) {
                leaves[e.getKey()] = e.getValue().lastEntry().getValue().value;
            }
        }
        groups = reachGroups();
        return turns;
    }

    private boolean done() {
        return runRow >= calls.size() && lookRow >= calls.size() && workers.stream().allMatch(Worker::free);
    }

    private void fall() {
        table = new HashMap<>();
        for (Call c : calls) {
            c.begin();
            while (!c.failed && c.next < c.acts.size()) {
                doAct(c);
            }
            publish(c);
        }
    }

    private Seen see(int leaf, int call) {
        Map.Entry<Integer, Entry> e = table.getOrDefault(leaf, new TreeMap<>()).lowerEntry(call);
        if (e == null) {
            return new Seen(NONE, 0, false, leaves[leaf]);
        }
        return new Seen(e.getKey(), e.getValue().run, e.getValue().perhaps, e.getValue().value);
    }

    private void step(Worker w) {
        if (w.free()) {
            if (lookRow < runRow) {
                Call c = calls.get(lookRow++);
                if (c.state == State.ENDED) {
                    w.looking = c;
                    w.lookRun = c.run;
                }
            } else if (runRow < calls.size()) {
                Call c = calls.get(runRow++);
                if (c.state == State.READY) {
                    startRun(w, c);
                }
            }
        } else if (w.running != null) {
            stepRun(w);
        } else {
            stepLook(w);
        }
    }

    private void startRun(Worker w, Call c) {
        c.state = State.RUNNING;
        c.begin();
        w.running = c;
    }

    private void stepRun(Worker w) {
        Call c = w.running;
        if (c.next < c.acts.size()) {
            int j = doAct(c);
            if (j != NONE) {
                c.state = State.WAIT;
                c.waitsFor = j;
                waits++;
                conflicts.add(new int[] {c.me, j});
                w.running = null;
                return;
            }
        }
        if (c.failed || c.next >= c.acts.size()) {
            w.running = null;
            boolean wroteNew = publish(c);
            c.state = State.ENDED;
            int least = Integer.MAX_VALUE;
            for (Call other : calls) {
                if (other.state == State.WAIT && other.waitsFor == c.me) {
                    other.state = State.READY;
                    least = Math.min(least, other.me);
                }
            }
            if (runRow > least) {
                runRow = least;
            }
            if (lookRow > c.me) {
                if (wroteNew) {
                    lookRow = c.me;
                } else {
                    w.looking = c;
                    w.lookRun = c.run;
                }
            }
        }
    }

    /** The call to wait for, or NONE. */
    private int doAct(Call c) {
        Act a = c.acts.get(c.next);
        int at = (int) Math.floorMod(a.v + c.reg[a.s], 32L);
        if (a.kind == 1 && !c.writes.containsKey(at) && !c.kept.containsKey(at)) {
            Seen seen = see(at, c.me);
            if (seen.perhaps) {
                return seen.call;
            }
            c.kept.put(at, seen);
        }
        c.next++;
        c.did++;
        actsDone++;
        switch (a.kind) {
            case 0 -> c.reg[a.r] = a.v;
            case 1 -> c.reg[a.r] = c.writes.containsKey(at) ? c.writes.get(at) : c.kept.get(at).value;
            case 2 -> c.writes.put(at, c.reg[a.r]);
            case 3 -> c.reg[a.r] = c.reg[a.r] + c.reg[a.s];
            case 4 -> c.reg[a.r] = c.reg[a.r] - c.reg[a.s];
            case 5 -> c.reg[a.r] = c.reg[a.r] * c.reg[a.s];
            case 6 -> c.next += c.reg[a.r] < c.reg[a.s] ? (int) a.v : 0;
            case 7 -> c.events.add(c.reg[a.r]);
            default -> {
                if (c.reg[a.r] < 0) {
                    c.failed = true;
                    c.writes.clear();
                    c.events.clear();
                }
            }
        }
        return NONE;
    }

    private boolean publish(Call c) {
        boolean wroteNew = false;
        for (int k = 0; k < 32; k++) {
            TreeMap<Integer, Entry> row = table.computeIfAbsent(k, key -> new TreeMap<>());
            Entry had = row.remove(c.me);
            if (c.writes.containsKey(k)) {
                wroteNew |= had == null;
                row.put(c.me, new Entry(c.run, false, c.writes.get(k)));
            }
        }
        return wroteNew;
    }

    private void stepLook(Worker w) {
        Call c = w.looking;
        w.looking = null;
        looks++;
        if (c.state != State.ENDED || c.run != w.lookRun) {
            return;
        }
        for (Map.Entry<Integer, Seen> k : c.kept.entrySet()) {
            Seen now = see(k.getKey(), c.me);
            if (!now.sameAs(k.getValue())) {
                undone++;
                conflicts.add(new int[] {c.me, now.call});
                undo(w, c);
                return;
            }
        }
    }

    private void undo(Worker w, Call c) {
        for (TreeMap<Integer, Entry> row : table.values()) {
            row.computeIfPresent(c.me, (key, e) -> new Entry(e.run, true, e.value));
        }
        c.run++;
        c.state = State.READY;
        if (c.run >= bound) {
            fell = true;
            return;
        }
        if (lookRow > c.me + 1) {
            lookRow = c.me + 1;
        }
        if (runRow > c.me) {
            startRun(w, c);
        }
    }

    private List<long[]> allEvents() {
        List<long[]> all = new ArrayList<>();
        for (Call c : calls) {
            for (long e : c.events) {
                all.add(new long[] {e, c.me});
            }
        }
        return all;
    }

    int events() {
        return allEvents().size();
    }

    long event(int i, int what) {
        List<long[]> all = allEvents();
        return i < 0 || i >= all.size() || what < 0 || what > 1 ? 0 : all.get(i)[what];
    }

    /** Of each call the least one that can be reached over common LEAVES. */
    private int[] reachGroups() {
        int n = calls.size();
        boolean[][] near = new boolean[n][n];
        for (int a = 0; a < n; a++) {
            for (int b = 0; b < n; b++) {
                near[a][b] = a == b || !Collections.disjoint(touched(calls.get(a)), touched(calls.get(b)));
            }
        }
        for (int over = 0; over < n; over++) {
            for (int a = 0; a < n; a++) {
                for (int b = 0; b < n; b++) {
                    near[a][b] |= near[a][over] && near[over][b];
                }
            }
        }
        int[] least = new int[n];
        for (int a = 0; a < n; a++) {
            while (!near[a][least[a]]) {
                least[a]++;
            }
        }
        return least;
    }

    private static Set<Integer> touched(Call c) {
        Set<Integer> all = new TreeSet<>(c.kept.keySet());
        all.addAll(c.writes.keySet());
        return all;
    }

    int of(int call, int what) {
        if (call < 0 || call >= calls.size()) {
            return NONE;
        }
        Call c = calls.get(call);
        return switch (what) {
            case 0 -> c.began;
            case 1 -> c.did;
            case 2 -> c.failed ? 1 : 0;
            case 3 -> c.kept.size();
            case 4 -> c.writes.size();
            case 5 -> groups[call];
            default -> NONE;
        };
    }

    int conflicts() {
        return conflicts.size();
    }

    int conflict(int i, int what) {
        return i < 0 || i >= conflicts.size() || i >= 200 || what < 0 || what > 1 ? -2 : conflicts.get(i)[what];
    }

    int told(int what) {
        int heads = (int) IntStream.of(groups).distinct().count();
        int[] answers = {turns, fell ? 1 : 0, looks, undone, waits, actsDone, heads, calls.size()};
        return what < 0 || what > 7 ? NONE : answers[what];
    }
}
