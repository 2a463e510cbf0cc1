import java.util.Arrays;

/** A laboratory for data structures without locks: small acts of threads, in all orders of their steps. */
public final class FreeShelf {
    public static final int BAD = -1, NO = -2, FULL = -3, NONE = -4, SPENT = -5;

    private static final int NO_NUMBER = -1000, NO_RUN = -2000, START_ERROR = -10;

    // Limits of programs, runs and explorations.
    private static final int ROUTINES = 6, ACTS = 30, LOCALS = 6, NODES = 6, LIMIT = 99;
    private static final int THREADS = 3, STARTER = 3, CALLS = 3, START_CALLS = 4, ALL_CALLS = 6;
    private static final int SLOTS = THREADS * CALLS, CHOICES = 6;
    private static final int OWN_ACTS = 30, PATIENCE = 60, MADE = 100, EXPLORATIONS = 12, STATES = 1500;

    // The operations of acts.
    private static final int READ = 0, LOOK = 1, WRITE = 2, LAY = 3, SWAP = 4, TURN = 5, ADD = 6, FENCE = 7;
    private static final int TAKE = 8, LET = 9, GUARD = 10, ENTER = 11, LEAVE = 12, RETURN = 13;
    private static final int SET = 20, BLANK = 21, COPY = 22, MARK = 23, GO = 24, SAME = 25, PLUS = 26;

    // The errors that threads meet.
    private static final int MISSING = 1, OTHER_KIND = 2, NO_ACT = 3, FREE_NODE = 4, NOT_TAKEN = 5, TOO_LONG = 6;

    // The manners, models and meanings that the rules speak of.
    private static final int FREE_AT_ONCE = 1, COUNTED = 2, GUARDED = 3, EPOCHS = 4;
    private static final int STACK = 1, QUEUE = 2, SUM = 3, CELL = 4;
    private static final int PUT = 1;

    private final Program plan = new Program();
    private final Machine live = new Machine();
    private final Judge judge = new Judge();
    // Made by the first exploration only, since it is by far the largest part.
    private Exploration search = null;
    private boolean running = false;
    private int made = 0;
    private int last = NONE;
    private int explorations = 0;

    public FreeShelf() {
    }

    public int act(int routine, int op, int a, int b, int c) {
        if (!isRoutine(routine) || !Grammar.allows(op, a, b, c)) return BAD;
        if (plan.size(routine) >= ACTS) return FULL;
        return plan.append(routine, op, a, b, c);
    }

    public int tear(int routine, int n) {
        if (!isRoutine(routine) || n < -1 || n > plan.size(routine)) return BAD;
        int had = plan.size(routine);
        plan.lengths[routine] = n;
        return had;
    }

    public int means(int routine, int what) {
        if (!isRoutine(routine) || what < 0 || what > 2) return BAD;
        int before = plan.meanings[routine];
        plan.meanings[routine] = what;
        return before;
    }

    public int moment(int routine, int place, boolean is) {
        int at = isRoutine(routine) ? plan.find(routine, place) : -1;
        if (at < 0 || plan.acts[at] > ADD) return BAD;
        int before = plan.acts[at + Program.MOMENT];
        plan.acts[at + Program.MOMENT] = is ? 1 : 0;
        return before;
    }

    public int call(int thread, int routine, int argument) {
        if (thread < 0 || thread > STARTER || !isRoutine(routine)) return BAD;
        if (argument < -LIMIT || argument > LIMIT) return BAD;
        if (plan.isFullFor(thread)) return FULL;
        return plan.addCall(thread, routine, argument);
    }

    public int clear() {
        int had = plan.total() + plan.counts[STARTER];
        Arrays.fill(plan.counts, 0);
        return had;
    }

    public int manner(int m) {
        if (m < 0 || m > EPOCHS) return BAD;
        int before = plan.manner;
        plan.manner = m;
        return before;
    }

    public int late(boolean is) {
        int before = plan.late ? 1 : 0;
        plan.late = is;
        return before;
    }

    public int model(int m) {
        if (m < 0 || m > CELL) return BAD;
        int before = plan.model;
        plan.model = m;
        return before;
    }

    public int told(int routine, int place, int what) {
        if (!isRoutine(routine)) return NO_NUMBER;
        if (place == -1) return toldOfRoutine(routine, what);
        int at = plan.find(routine, place);
        if (at < 0 || what < 0 || what > Program.MOMENT) return NO_NUMBER;
        return plan.acts[at + what];
    }

    public int begin() {
        if (plan.total() == 0) return NO;
        int error = live.start(plan);
        running = error == 0;
        made = 0;
        last = NONE;
        return running ? 1 : START_ERROR - error;
    }

    public int step(int choice) {
        if (!isChoice(choice)) return BAD;
        if (!running || !live.isPossible(choice)) return NO;
        if (made >= MADE) return FULL;
        choose(choice);
        return made;
    }

    public int may(int choice) {
        if (!isChoice(choice)) return BAD;
        if (!running) return NO;
        return live.isPossible(choice) ? 1 : 0;
    }

    public int run(int n) {
        if (n < 1 || n > MADE) return BAD;
        if (!running) return NO;
        int before = made;
        for (int i = 0; i < n && made < MADE; i++) {
            int choice = choiceInTurn();
            if (choice == NONE) break;
            choose(choice);
        }
        return made - before;
    }

    public int word(int w, int what) {
        if (w < 0 || w >= Layout.WORDS || what < 0 || what > 3) return NO_NUMBER;
        if (!running) return NO_RUN;
        return Value.part(live.cells[w], what);
    }

    public int local(int thread, int l, int what) {
        if (!isThread(thread) || l < 0 || l >= LOCALS || what < 0 || what > 3) return NO_NUMBER;
        if (!running) return NO_RUN;
        return Value.part(live.cells[Layout.ofThread(thread) + l], what);
    }

    public int node(int k) {
        if (k < 0 || k >= NODES) return BAD;
        if (!running) return NO;
        return Math.min(live.cells[Layout.NODE + k], Layout.RELEASED);
    }

    public int thread(int t, int what) {
        if (!isThread(t) || what < 0 || what > 7) return BAD;
        if (!running) return NO;
        return toldOfThread(Layout.ofThread(t), what);
    }

    public int answer(int thread, int i) {
        if (!isThread(thread) || i < 0 || i >= CALLS) return NO_NUMBER;
        if (!running) return NO_RUN;
        if (i >= live.cells[Layout.ofThread(thread) + Layout.OVER]) return NONE;
        return live.cells[Layout.ANSWER + thread * CALLS + i];
    }

    public int epoch() {
        return running ? live.cells[Layout.EPOCH] : NO;
    }

    public int agrees() {
        if (!running || !live.isAtEnd()) return NO;
        return judge.findsOrder(live) ? 1 : 0;
    }

    public int keeps() {
        if (!running || !live.isAtEnd() || live.program.model == 0) return NO;
        return judge.followsMoments(live) ? 1 : 0;
    }

    public int explore() {
        if (plan.total() == 0) return NO;
        if (explorations >= EXPLORATIONS) return FULL;
        explorations++;
        if (search == null) search = new Exploration();
        int error = search.machine.start(plan);
        search.known = error == 0;
        if (error != 0) return START_ERROR - error;
        search.goThrough(judge);
        return search.incomplete ? SPENT : search.states;
    }

    public int explored(int what) {
        if (what < 0 || what > 7) return BAD;
        if (search == null || !search.known) return NO;
        return search.figure(what);
    }

    public int first(int what) {
        if (what < 0) return BAD;
        if (search == null || !search.known) return NO;
        return what == 3 ? search.stuckState() : search.find(what);
    }

    public int walk(int state, int i) {
        if (i < 0) return BAD;
        if (search == null || !search.isKept(state)) return NO;
        return search.choiceOfWalk(state, i);
    }

    public int next(int state, int choice) {
        if (!isChoice(choice)) return BAD;
        if (search == null || !search.isKept(state)) return NO;
        return search.next[state * CHOICES + choice];
    }

    public int go(int state) {
        if (search == null || !search.isKept(state)) return NO;
        int length = search.depths[state];
        if (length > MADE) return FULL;
        live.resume(search.machine.program, search.rows, state * Layout.KEPT);
        running = true;
        made = length;
        last = length == 0 ? NONE : search.choices[state];
        return length;
    }

    public int answers() {
        if (search == null || !search.known) return NO;
        return search.results;
    }

    private static boolean isRoutine(int routine) {
        return routine >= 0 && routine < ROUTINES;
    }

    private static boolean isThread(int thread) {
        return thread >= 0 && thread < THREADS;
    }

    private static boolean isChoice(int choice) {
        return choice >= 0 && choice < CHOICES;
    }

    private int toldOfRoutine(int routine, int what) {
        if (what == 0) return plan.lengths[routine] < 0 ? NONE : plan.lengths[routine];
        return what == 1 ? plan.meanings[routine] : NO_NUMBER;
    }

    private int toldOfThread(int base, int what) {
        int[] cells = live.cells;
        switch (what) {
            case 0: return cells[base + Layout.OVER];
            case 1: return cells[base + Layout.BEGUN];
            case 2: return cells[base + Layout.PLACE];
            case 3: return cells[base + Layout.ERROR];
            case 4: return cells[base + Layout.HELD];
            case 5: return lessOne(cells[base + Layout.GUARDS]);
            case 6: return lessOne(cells[base + Layout.GUARDS + 1]);
            default: return lessOne(cells[base + Layout.INSIDE]);
        }
    }

    /** Guards and the epoch inside are kept one higher, so that 0 stands for none. */
    private static int lessOne(int kept) {
        return kept == 0 ? NONE : kept - 1;
    }

    private void choose(int choice) {
        live.choose(choice);
        made++;
        last = choice;
    }

    /** The first possible choice after the last one, cyclically, or NONE. */
    private int choiceInTurn() {
        int from = last == NONE ? 0 : last + 1;
        for (int i = 0; i < CHOICES; i++) {
            int choice = (from + i) % CHOICES;
            if (live.isPossible(choice)) return choice;
        }
        return NONE;
    }

    /** Which numbers the operations take. */
    private static final class Grammar {
        private static final int FIRST_OWN = 20, OPERATIONS = 27;

        // How each operation uses a, b and c: 0 not at all, 1 a local, 2 a global,
        // 3 a field, guard or mark, 4 a number, 5 an act to go on at.
        private static final int[] USES = {
            1, 2, 0, /* read */ 1, 1, 3, /* look */ 2, 1, 0, /* write */ 1, 3, 1, /* lay */
            2, 1, 1, /* swap */ 1, 1, 1, /* turn */ 2, 4, 0, /* add */ 0, 0, 0, /* fence */
            1, 0, 0, /* take */ 1, 0, 0, /* let */ 3, 1, 0, /* guard */ 0, 0, 0, /* enter */
            0, 0, 0, /* leave */ 1, 0, 0, /* return */
            0, 0, 0, 0, 0, 0, 0, 0, 0, 0, 0, 0, 0, 0, 0, 0, 0, 0, /* 14 to 19 are no operations */
            1, 4, 0, /* set */ 1, 0, 0, /* none */ 1, 1, 0, /* copy */ 1, 3, 0, /* mark */
            5, 0, 0, /* go */ 1, 1, 5, /* same */ 1, 4, 0 /* plus */
        };
        private static final int[] LOWEST = {-2147483648, 0, 0, 0, -99, 0};
        private static final int[] HIGHEST = {2147483647, 5, 7, 1, 99, 40};

        static boolean allows(int op, int a, int b, int c) {
            if (op < 0 || op > RETURN && op < FIRST_OWN || op >= OPERATIONS) return false;
            return fits(USES[3 * op], a) && fits(USES[3 * op + 1], b) && fits(USES[3 * op + 2], c);
        }

        private static boolean fits(int use, int number) {
            return number >= LOWEST[use] && number <= HIGHEST[use];
        }
    }

    /** Routines, calls and settings. */
    private static final class Program {
        // An act is its operation, its numbers a, b and c, and whether it is a moment.
        private static final int A = 1, B = 2, C = 3, MOMENT = 4, ACT = 5;
        // A missing routine has this length.
        private static final int GONE = -1;

        private final int[] acts = new int[ROUTINES * ACTS * ACT];
        private final int[] lengths = new int[ROUTINES];
        private final int[] meanings = new int[ROUTINES];
        private final int[] counts = new int[THREADS + 1];
        // Call i of thread t has slot t * CALLS + i; the start calls come last.
        private final int[] routines = new int[SLOTS + START_CALLS];
        private final int[] arguments = new int[SLOTS + START_CALLS];
        private int manner = 0;
        private boolean late = false;
        private int model = 0;

        Program() {
            Arrays.fill(lengths, GONE);
        }

        void copyFrom(Program other) {
            System.arraycopy(other.acts, 0, acts, 0, acts.length);
            System.arraycopy(other.lengths, 0, lengths, 0, lengths.length);
            System.arraycopy(other.meanings, 0, meanings, 0, meanings.length);
            System.arraycopy(other.counts, 0, counts, 0, counts.length);
            System.arraycopy(other.routines, 0, routines, 0, routines.length);
            System.arraycopy(other.arguments, 0, arguments, 0, arguments.length);
            manner = other.manner;
            late = other.late;
            model = other.model;
        }

        int size(int routine) {
            return Math.max(0, lengths[routine]);
        }

        int append(int routine, int op, int a, int b, int c) {
            int length = size(routine);
            int at = (routine * ACTS + length) * ACT;
            acts[at] = op;
            acts[at + A] = a;
            acts[at + B] = b;
            acts[at + C] = c;
            acts[at + MOMENT] = 0;
            lengths[routine] = length + 1;
            return length + 1;
        }

        /** Where an act stands in the row of acts, or -1 if there is none at this place. */
        int find(int routine, int place) {
            if (place < 0 || place >= lengths[routine]) return -1;
            return (routine * ACTS + place) * ACT;
        }

        int total() {
            return counts[0] + counts[1] + counts[2];
        }

        boolean isFullFor(int thread) {
            if (thread == STARTER) return counts[thread] >= START_CALLS;
            return counts[thread] >= CALLS || total() >= ALL_CALLS;
        }

        int addCall(int thread, int routine, int argument) {
            int slot = thread * CALLS + counts[thread];
            routines[slot] = routine;
            arguments[slot] = argument;
            counts[thread]++;
            return counts[thread];
        }
    }

    /** Values in one int: the count in bits 0 and 1, the mark in bit 2, the kind in bits 3 and 4, the rest above. */
    private static final class Value {
        private static final int NOTHING = 0, NUMBER = 1, NODE = 2;
        private static final int COUNT = 3, MARK_BIT = 4;

        /** A number, kept in range. */
        static int ofNumber(int n) {
            return Math.max(-LIMIT, Math.min(LIMIT, n)) << 5 | NUMBER << 3;
        }

        static int ofNode(int k) {
            return k << 5 | NODE << 3;
        }

        static int kind(int cell) {
            return cell >> 3 & 3;
        }

        /** The number or node, 0 for nothing. */
        static int amount(int cell) {
            return cell >> 5;
        }

        static boolean areAlike(int one, int other) {
            return one >> 2 == other >> 2;
        }

        static int marked(int cell, int mark) {
            if ((cell >> 3 & 3) == NOTHING) return cell;
            return cell & ~MARK_BIT | mark << 2;
        }

        static int part(int cell, int what) {
            switch (what) {
                case 0: return kind(cell);
                case 1: return amount(cell);
                case 2: return cell >> 2 & 1;
                default: return cell & COUNT;
            }
        }

        /** The error of an act that needs a value of this kind, or 0. */
        static int lack(int cell, int wanted) {
            int kind = cell >> 3 & 3;
            if (kind == wanted) return 0;
            return kind == NOTHING ? MISSING : OTHER_KIND;
        }

        static int answerFrom(int cell) {
            switch (kind(cell)) {
                case NOTHING: return -100;
                case NODE: return 100;
                default: return amount(cell);
            }
        }
    }

    /** Where the parts of a state stand in its row of cells. */
    private static final class Layout {
        // The globals, then the fields of the nodes.
        private static final int GLOBALS = 8, WORDS = GLOBALS + 2 * NODES;
        // A node is FREE, TAKEN, or RELEASED + the epoch of its release.
        private static final int NODE = WORDS, FREE = 0, TAKEN = 1, RELEASED = 2;
        private static final int EPOCH = NODE + NODES;
        // Slots + 1 of calls in the order of their moments, four bits each, the earliest lowest.
        private static final int ORDER = EPOCH + 1;
        private static final int ANSWER = ORDER + 1;
        // The calls that were over when this one was begun, a bit for each slot.
        private static final int BEFORE = ANSWER + SLOTS;
        private static final int THREAD = BEFORE + SLOTS;
        // Within the cells of a thread: six locals, then these.
        private static final int GUARDS = LOCALS, INSIDE = GUARDS + 2, PLACE = INSIDE + 1;
        private static final int OVER = PLACE + 1, BEGUN = OVER + 1, ERROR = BEGUN + 1;
        private static final int HELD = ERROR + 1, BUFFER = HELD + 1, ROOM = 4, SPAN = BUFFER + ROOM;
        // The starter comes last and is no part of the states that are kept.
        private static final int KEPT = THREAD + THREADS * SPAN, CELLS = KEPT + SPAN;
        // The local that tells how a swap, turn or add went.
        private static final int OUTCOME = 5;

        static int ofThread(int thread) {
            return THREAD + thread * SPAN;
        }

        static int ofField(int node, int field) {
            return GLOBALS + 2 * node + field;
        }
    }

    /** A program and the state that it has come to. */
    private static final class Machine {
        private final Program program = new Program();
        private final int[] cells = new int[Layout.CELLS];
        private boolean delayed = false;

        /** Takes over a program and does its start calls; the error that one of them meets, or 0. */
        int start(Program plan) {
            program.copyFrom(plan);
            Arrays.fill(cells, 0);
            delayed = false;
            int error = 0;
            for (int i = 0; i < program.counts[STARTER] && error == 0; i++) {
                error = canFinish(STARTER) ? cells[Layout.ofThread(STARTER) + Layout.ERROR] : TOO_LONG;
            }
            delayed = program.late;
            return error;
        }

        /** Takes over a program and a state that has been kept. */
        void resume(Program other, int[] rows, int from) {
            program.copyFrom(other);
            Arrays.fill(cells, 0);
            System.arraycopy(rows, from, cells, 0, Layout.KEPT);
            delayed = program.late;
        }

        /** Does steps of one thread until its call is over or it meets an error; false if that takes too many. */
        boolean canFinish(int thread) {
            int base = Layout.ofThread(thread);
            int over = cells[base + Layout.OVER];
            for (int i = 0; i < PATIENCE; i++) {
                advance(thread);
                if (cells[base + Layout.ERROR] != 0 || cells[base + Layout.OVER] > over) return true;
            }
            return false;
        }

        boolean isPossible(int choice) {
            int base = Layout.ofThread(choice % THREADS);
            if (choice >= THREADS) return cells[base + Layout.HELD] > 0;
            return cells[base + Layout.ERROR] == 0 && cells[base + Layout.OVER] < program.counts[choice];
        }

        boolean isAtEnd() {
            for (int choice = 0; choice < CHOICES; choice++) {
                if (isPossible(choice)) return false;
            }
            return true;
        }

        boolean hasError() {
            for (int thread = 0; thread < THREADS; thread++) {
                if (cells[Layout.ofThread(thread) + Layout.ERROR] != 0) return true;
            }
            return false;
        }

        int waitingNodes() {
            int waiting = 0;
            for (int k = 0; k < NODES; k++) {
                if (cells[Layout.NODE + k] >= Layout.RELEASED) waiting++;
            }
            return waiting;
        }

        /** Makes a choice that is possible. */
        void choose(int choice) {
            if (choice < THREADS) advance(choice);
            else comeOldest(Layout.ofThread(choice - THREADS));
        }

        /** A step of a thread that has met no error and has a call begun or still to come. */
        private void advance(int thread) {
            int base = Layout.ofThread(thread);
            if (cells[base + Layout.OVER] >= program.counts[thread]) return;
            int slot = thread * CALLS + cells[base + Layout.OVER];
            int routine = program.routines[slot];
            int left = OWN_ACTS;
            if (cells[base + Layout.BEGUN] == 0) {
                beginCall(base, slot);
                left = ownActs(base, routine, left);
                if (cells[base + Layout.ERROR] != 0) return;
            }
            int at = program.find(routine, cells[base + Layout.PLACE]);
            if (at >= 0 && waitsForWrites(program.acts[at])) letComeUntil(base, 0);
            int error = at < 0 ? NO_ACT : memoryError(base, at);
            cells[base + Layout.ERROR] = error;
            if (error != 0) return;
            cells[base + Layout.PLACE]++;
            if (delayed && appends(program.acts[at])) letComeUntil(base, Layout.ROOM - 1);
            perform(base, at, slot);
            noteMoment(base, at, slot);
            settle(program.acts[at]);
            if (cells[base + Layout.BEGUN] != 0) ownActs(base, routine, left);
        }

        private void beginCall(int base, int slot) {
            cells[base + Layout.BEGUN] = 1;
            cells[base] = Value.ofNumber(program.arguments[slot]);
            if (slot < SLOTS) cells[Layout.BEFORE + slot] = callsOver();
            if (program.lengths[program.routines[slot]] < 0) cells[base + Layout.ERROR] = MISSING;
        }

        private int callsOver() {
            int calls = 0;
            for (int thread = 0; thread < THREADS; thread++) {
                int over = cells[Layout.ofThread(thread) + Layout.OVER];
                calls |= (1 << over) - 1 << thread * CALLS;
            }
            return calls;
        }

        /** Own operations from the thread's place on; how many more the step may do. */
        private int ownActs(int base, int routine, int left) {
            for (int rest = left; rest >= 0; rest--) {
                int at = program.find(routine, cells[base + Layout.PLACE]);
                if (at < 0 || program.acts[at] < Grammar.FIRST_OWN) return rest;
                int error = ownError(base, at, rest);
                cells[base + Layout.ERROR] = error;
                if (error != 0) return 0;
                cells[base + Layout.PLACE]++;
                ownAct(base, at);
            }
            return 0;
        }

        private int ownError(int base, int at, int rest) {
            int error = 0;
            if (program.acts[at] == PLUS) error = Value.lack(cells[base + program.acts[at + Program.A]], Value.NUMBER);
            if (error == 0 && rest == 0) error = TOO_LONG;
            return error;
        }

        private void ownAct(int base, int at) {
            int a = program.acts[at + Program.A];
            int b = program.acts[at + Program.B];
            switch (program.acts[at]) {
                case SET:
                    cells[base + a] = Value.ofNumber(b);
                    break;
                case BLANK:
                    cells[base + a] = 0;
                    break;
                case COPY:
                    cells[base + a] = cells[base + b];
                    break;
                case MARK:
                    cells[base + a] = Value.marked(cells[base + a], b);
                    break;
                case GO:
                    cells[base + Layout.PLACE] = a;
                    break;
                case SAME:
                    if (Value.areAlike(cells[base + a], cells[base + b])) {
                        cells[base + Layout.PLACE] = program.acts[at + Program.C];
                    }
                    break;
                default:
                    cells[base + a] = Value.ofNumber(Value.amount(cells[base + a]) + b);
            }
        }

        private static boolean waitsForWrites(int op) {
            switch (op) {
                case SWAP:
                case TURN:
                case ADD:
                case FENCE:
                case LET:
                case RETURN:
                    return true;
                default:
                    return false;
            }
        }

        private static boolean appends(int op) {
            return op == WRITE || op == LAY;
        }

        private int memoryError(int base, int at) {
            int a = program.acts[at + Program.A];
            switch (program.acts[at]) {
                case LOOK:
                    return nodeError(cells[base + program.acts[at + Program.B]], FREE_NODE);
                case LAY:
                case TURN:
                    return nodeError(cells[base + a], FREE_NODE);
                case LET:
                    return nodeError(cells[base + a], NOT_TAKEN);
                case ADD:
                    return Value.kind(cells[a]) == Value.NODE ? OTHER_KIND : 0;
                default:
                    return 0;
            }
        }

        /** A released node that is not free can still be looked at, but not be released again. */
        private int nodeError(int cell, int error) {
            int lack = Value.lack(cell, Value.NODE);
            if (lack != 0) return lack;
            int node = cells[Layout.NODE + Value.amount(cell)];
            if (node == Layout.FREE) return error;
            return error == NOT_TAKEN && node != Layout.TAKEN ? error : 0;
        }

        private void perform(int base, int at, int slot) {
            int a = program.acts[at + Program.A];
            int b = program.acts[at + Program.B];
            int c = program.acts[at + Program.C];
            switch (program.acts[at]) {
                case READ:
                    cells[base + a] = seen(base, b);
                    break;
                case LOOK:
                    cells[base + a] = seen(base, Layout.ofField(Value.amount(cells[base + b]), c));
                    break;
                case WRITE:
                    write(base, a, cells[base + b]);
                    break;
                case LAY:
                    write(base, Layout.ofField(Value.amount(cells[base + a]), b), cells[base + c]);
                    break;
                case SWAP:
                    swap(base, a, cells[base + b], cells[base + c]);
                    break;
                case TURN:
                    swap(base, Layout.ofField(Value.amount(cells[base + a]), 0), cells[base + b], cells[base + c]);
                    break;
                case ADD:
                    cells[base + Layout.OUTCOME] = Value.ofNumber(Value.amount(cells[a]) + b);
                    store(a, cells[base + Layout.OUTCOME] >> 2);
                    break;
                case TAKE:
                    cells[base + a] = takeNode();
                    break;
                case LET:
                    release(Value.amount(cells[base + a]));
                    break;
                case GUARD:
                    cells[base + Layout.GUARDS + a] = guardFor(cells[base + b]);
                    break;
                case ENTER:
                    cells[base + Layout.INSIDE] = cells[Layout.EPOCH] + 1;
                    break;
                case LEAVE:
                    cells[base + Layout.INSIDE] = 0;
                    break;
                case RETURN:
                    endCall(base, slot, Value.answerFrom(cells[base + a]));
                    break;
                default:
                    // A fence has done its work when the writes have come.
            }
        }

        /** A word as a thread sees it: its own latest delayed value, but the count of the word itself. */
        private int seen(int base, int word) {
            int value = cells[word] >> 2;
            for (int i = 0; i < Layout.ROOM && i < cells[base + Layout.HELD]; i++) {
                int delayedWrite = cells[base + Layout.BUFFER + i];
                if ((delayedWrite & 31) == word) value = delayedWrite >> 5;
            }
            return value << 2 | cells[word] & Value.COUNT;
        }

        /** Ordered memory takes a write at once; else the buffer takes it, where room has been made for it. */
        private void write(int base, int word, int cell) {
            if (!delayed) {
                store(word, cell >> 2);
                return;
            }
            if (cells[base + Layout.HELD] >= Layout.ROOM) return;
            cells[base + Layout.BUFFER + cells[base + Layout.HELD]] = cell >> 2 << 5 | word;
            cells[base + Layout.HELD]++;
        }

        /** The oldest delayed writes of a thread take effect, until no more than so many are left. */
        private void letComeUntil(int base, int left) {
            for (int i = cells[base + Layout.HELD]; i > left; i--) comeOldest(base);
        }

        /** The oldest delayed write of a thread takes effect, if there is one. */
        private void comeOldest(int base) {
            if (cells[base + Layout.HELD] == 0) return;
            int oldest = cells[base + Layout.BUFFER];
            store(oldest & 31, oldest >> 5);
            for (int i = base + Layout.BUFFER; i < base + Layout.SPAN - 1; i++) cells[i] = cells[i + 1];
            cells[base + Layout.SPAN - 1] = 0;
            cells[base + Layout.HELD]--;
        }

        private void store(int word, int value) {
            int count = cells[word] & Value.COUNT;
            if (program.manner == COUNTED) count = count + 1 & Value.COUNT;
            cells[word] = value << 2 | count;
        }

        private void swap(int base, int word, int expected, int fresh) {
            // Without manner 2 all counts are 0, so that whole cells can be compared with every manner.
            boolean changed = cells[word] == expected;
            if (changed) store(word, fresh >> 2);
            cells[base + Layout.OUTCOME] = Value.ofNumber(changed ? 1 : 0);
        }

        private int takeNode() {
            for (int k = 0; k < NODES; k++) {
                if (cells[Layout.NODE + k] != Layout.FREE) continue;
                cells[Layout.NODE + k] = Layout.TAKEN;
                cells[Layout.ofField(k, 0)] &= Value.COUNT;
                cells[Layout.ofField(k, 1)] &= Value.COUNT;
                return Value.ofNode(k);
            }
            return 0;
        }

        private void release(int k) {
            boolean atOnce = program.manner == FREE_AT_ONCE || program.manner == COUNTED;
            cells[Layout.NODE + k] = atOnce ? Layout.FREE : Layout.RELEASED + cells[Layout.EPOCH];
        }

        private static int guardFor(int cell) {
            return Value.kind(cell) == Value.NODE ? Value.amount(cell) + 1 : 0;
        }

        private void endCall(int base, int slot, int answer) {
            if (slot < SLOTS) cells[Layout.ANSWER + slot] = answer;
            for (int i = base; i <= base + Layout.PLACE; i++) cells[i] = 0;
            cells[base + Layout.BEGUN] = 0;
            cells[base + Layout.OVER]++;
        }

        /** A moment that comes again moves the call to the end of the order. */
        private void noteMoment(int base, int at, int slot) {
            int op = program.acts[at];
            if (program.acts[at + Program.MOMENT] == 0 || slot >= SLOTS) return;
            if ((op == SWAP || op == TURN) && Value.amount(cells[base + Layout.OUTCOME]) == 0) return;
            int order = 0;
            int shift = 0;
            for (int i = 0; i < ALL_CALLS; i++) {
                int call = cells[Layout.ORDER] >> 4 * i & 15;
                if (call == 0 || call == slot + 1) continue;
                order |= call << shift;
                shift += 4;
            }
            cells[Layout.ORDER] = order | slot + 1 << shift;
        }

        /** Released nodes become free, where the manner lets them after this operation. */
        private void settle(int op) {
            boolean releases = op == LET || op == RETURN;
            if (program.manner == GUARDED && (releases || op == GUARD)) freeUnguarded();
            if (program.manner == EPOCHS && (releases || op == ENTER || op == LEAVE)) turnEpoch();
        }

        private void freeUnguarded() {
            for (int k = 0; k < NODES; k++) {
                if (cells[Layout.NODE + k] >= Layout.RELEASED && !isGuarded(k)) cells[Layout.NODE + k] = Layout.FREE;
            }
        }

        private boolean isGuarded(int k) {
            for (int thread = 0; thread <= STARTER; thread++) {
                int at = Layout.ofThread(thread) + Layout.GUARDS;
                if (cells[at] == k + 1 || cells[at + 1] == k + 1) return true;
            }
            return false;
        }

        private void turnEpoch() {
            if (waitingNodes() == 0 || !areAllInPresent()) return;
            int epoch = ++cells[Layout.EPOCH];
            for (int k = 0; k < NODES; k++) {
                int node = cells[Layout.NODE + k];
                boolean isOld = node - Layout.RELEASED + 2 <= epoch;
                if (node >= Layout.RELEASED && isOld) cells[Layout.NODE + k] = Layout.FREE;
            }
        }

        private boolean areAllInPresent() {
            for (int thread = 0; thread <= STARTER; thread++) {
                int inside = cells[Layout.ofThread(thread) + Layout.INSIDE];
                if (inside != 0 && inside - 1 != cells[Layout.EPOCH]) return false;
            }
            return true;
        }
    }

    /** Compares the answers of an end with those of calls done one after the other. */
    private static final class Judge {
        // A shelf holds what is on it, from HEAD to TAIL, or the sum or cell in TOTAL.
        private static final int HEAD = 0, TAIL = 1, TOTAL = 2, ITEMS = 3;
        private static final int SHELF = ITEMS + ALL_CALLS + START_CALLS;

        // The shelf after each number of calls done.
        private final int[][] shelves = new int[ALL_CALLS + 1][SHELF];

        /** Whether an end agrees. */
        boolean findsOrder(Machine end) {
            if (end.hasError()) return false;
            if (end.program.model == 0) return true;
            fillFirstShelf(end.program);
            return extendOrder(end, shelves, 0, 0);
        }

        /** Whether an end keeps the moments. */
        boolean followsMoments(Machine end) {
            if (end.hasError()) return false;
            fillFirstShelf(end.program);
            int order = end.cells[Layout.ORDER];
            for (int i = 0; i < end.program.total() && i < ALL_CALLS; i++) {
                int slot = (order >> 4 * i & 15) - 1;
                if (slot < 0 || !serve(end.program, slot, end.cells[Layout.ANSWER + slot], shelves[0])) return false;
            }
            return true;
        }

        private void fillFirstShelf(Program program) {
            Arrays.fill(shelves[0], 0);
            for (int i = 0; i < program.counts[STARTER]; i++) {
                // The answers of start calls are arbitrary, so that it does not matter which one is right.
                serve(program, SLOTS + i, 0, shelves[0]);
            }
        }

        /** Whether the calls that are not done yet can follow in some order; depth tells how many are done. */
        private static boolean extendOrder(Machine end, int[][] shelves, int depth, int done) {
            if (depth >= end.program.total() || depth >= ALL_CALLS) return true;
            for (int slot = 0; slot < SLOTS; slot++) {
                if (!canFollow(end, slot, done)) continue;
                System.arraycopy(shelves[depth], 0, shelves[depth + 1], 0, SHELF);
                boolean isRight = serve(end.program, slot, end.cells[Layout.ANSWER + slot], shelves[depth + 1]);
                if (isRight && extendOrder(end, shelves, depth + 1, done | 1 << slot)) return true;
                // A call without meaning changes nothing: it can as well come now as later.
                if (end.program.meanings[end.program.routines[slot]] == 0) return false;
            }
            return false;
        }

        private static boolean canFollow(Machine end, int slot, int done) {
            if (slot % CALLS >= end.program.counts[slot / CALLS] || (done >> slot & 1) == 1) return false;
            return (end.cells[Layout.BEFORE + slot] & ~done) == 0;
        }

        /** Does a call on a shelf; whether its answer is one that it may have then. */
        private static boolean serve(Program program, int slot, int answer, int[] shelf) {
            int meaning = program.meanings[program.routines[slot]];
            int argument = program.arguments[slot];
            if (meaning == 0) return true;
            if (program.model == STACK || program.model == QUEUE) {
                if (meaning != PUT) return answer == removeFrom(shelf, program.model);
                addTo(shelf, argument);
                return true;
            }
            if (meaning == PUT) shelf[TOTAL] = program.model == SUM ? shelf[TOTAL] + argument : argument;
            return answer == shelf[TOTAL] || meaning == PUT && program.model == CELL;
        }

        private static void addTo(int[] shelf, int item) {
            if (ITEMS + shelf[TAIL] >= SHELF) return;
            shelf[ITEMS + shelf[TAIL]] = item;
            shelf[TAIL]++;
        }

        private static int removeFrom(int[] shelf, int model) {
            if (shelf[HEAD] >= shelf[TAIL]) return -100;
            if (model == STACK) {
                shelf[TAIL]--;
                return shelf[ITEMS + shelf[TAIL]];
            }
            shelf[HEAD]++;
            return shelf[ITEMS + shelf[HEAD] - 1];
        }
    }

    /** All states that a program can come to, as far as they are kept. */
    private static final class Exploration {
        // The bits of traits; the number of nodes that wait stands above them.
        private static final int END = 1, DISAGREES = 2, BREAKS = 4, FAILED = 8, WAITING = 4;
        private static final int PLACES = 4096;
        private static final int UNKNOWN = -9;

        private final Machine machine = new Machine();
        private final int[] rows = new int[STATES * Layout.KEPT];
        private final int[] next = new int[STATES * CHOICES];
        private final int[] parents = new int[STATES];
        private final int[] choices = new int[STATES];
        private final int[] depths = new int[STATES];
        private final int[] traits = new int[STATES];
        // Places for state numbers + 1, found by their hash.
        private final int[] places = new int[PLACES];
        private final Cycles cycles = new Cycles();
        private boolean known = false;
        private boolean incomplete = false;
        private int states = 0;
        private int mostWaiting = 0;
        private int results = 0;
        // Found when they are asked for, and only once.
        private int firstStuck = UNKNOWN;
        private int firstInCycle = UNKNOWN;

        boolean isKept(int state) {
            return known && state >= 0 && state < states;
        }

        /** Finds all states from that of the machine on. */
        void goThrough(Judge judge) {
            forget();
            keep(0, NONE);
            for (int state = 0; state < STATES && state < states; state++) {
                load(state);
                describe(state, judge);
                for (int choice = 0; choice < CHOICES; choice++) {
                    next[state * CHOICES + choice] = NONE;
                    if (!machine.isPossible(choice)) continue;
                    machine.choose(choice);
                    next[state * CHOICES + choice] = keep(state, choice);
                    load(state);
                }
            }
            results = countResults();
        }

        private void forget() {
            incomplete = false;
            states = 0;
            mostWaiting = 0;
            firstStuck = UNKNOWN;
            firstInCycle = UNKNOWN;
            Arrays.fill(places, 0);
        }

        private void load(int state) {
            System.arraycopy(rows, state * Layout.KEPT, machine.cells, 0, Layout.KEPT);
        }

        /** The number of the machine's state, which is kept if it is new and there is room; else NONE. */
        private int keep(int parent, int choice) {
            int place = findPlace();
            if (places[place] != 0) return places[place] - 1;
            if (states >= STATES) {
                incomplete = true;
                return NONE;
            }
            System.arraycopy(machine.cells, 0, rows, states * Layout.KEPT, Layout.KEPT);
            parents[states] = parent;
            choices[states] = choice;
            depths[states] = choice == NONE ? 0 : depths[parent] + 1;
            states++;
            places[place] = states;
            return states - 1;
        }

        /** The place of the machine's state, or the empty one where it belongs; there are more places than states. */
        private int findPlace() {
            int hash = 0;
            for (int i = 0; i < Layout.KEPT; i++) hash = hash * 31 + machine.cells[i];
            int place = hash * 0x9E3779B1 >>> 20;
            for (int i = 0; i < PLACES; i++) {
                if (places[place] == 0 || isSame(places[place] - 1)) break;
                place = place + 1 & PLACES - 1;
            }
            return place;
        }

        private boolean isSame(int state) {
            int from = state * Layout.KEPT;
            for (int i = 0; i < Layout.KEPT; i++) {
                if (rows[from + i] != machine.cells[i]) return false;
            }
            return true;
        }

        private void describe(int state, Judge judge) {
            int waiting = machine.waitingNodes();
            int found = waiting << WAITING;
            if (machine.hasError()) found |= FAILED;
            if (machine.isAtEnd()) {
                found |= END;
                if (!judge.findsOrder(machine)) found |= DISAGREES;
                if (machine.program.model != 0 && !judge.followsMoments(machine)) found |= BREAKS;
            }
            traits[state] = found;
            mostWaiting = Math.max(mostWaiting, waiting);
        }

        int figure(int what) {
            switch (what) {
                case 0: return states;
                case 1: return countTrait(END);
                case 2: return countTrait(DISAGREES);
                case 3: return countTrait(BREAKS);
                case 4: return countPairs();
                case 5: return countTrait(FAILED);
                case 6: return mostWaiting;
                default: return incomplete ? 1 : 0;
            }
        }

        private int countTrait(int trait) {
            int count = 0;
            for (int state = 0; state < states; state++) {
                if ((traits[state] & trait) != 0) count++;
            }
            return count;
        }

        private int countPairs() {
            int count = 0;
            for (int i = 0; i < states * CHOICES; i++) {
                if (next[i] != NONE) count++;
            }
            return count;
        }

        int find(int what) {
            switch (what) {
                case 0: return withTrait(DISAGREES, 0);
                case 1: return withTrait(BREAKS, 0);
                case 2: return withTrait(FAILED, 0);
                case 4: return stateInCycle();
                case 5: return withMostWaiting();
                default: return withTrait(END, what - 6);
            }
        }

        /** The state with a trait that has so many others with it before, or NONE. */
        private int withTrait(int trait, int others) {
            int left = others;
            for (int state = 0; state < states; state++) {
                if ((traits[state] & trait) == 0) continue;
                if (left == 0) return state;
                left--;
            }
            return NONE;
        }

        private int withMostWaiting() {
            for (int state = 0; state < states; state++) {
                if (traits[state] >> WAITING == mostWaiting) return state;
            }
            return NONE;
        }

        /** The first state from which some thread cannot finish alone, or NONE. */
        int stuckState() {
            if (firstStuck != UNKNOWN) return firstStuck;
            firstStuck = NONE;
            for (int i = 0; i < states * THREADS && firstStuck == NONE; i++) {
                int state = i / THREADS;
                int thread = i % THREADS;
                if (!isWithinCall(state, thread)) continue;
                load(state);
                if (!machine.canFinish(thread)) firstStuck = state;
            }
            return firstStuck;
        }

        private boolean isWithinCall(int state, int thread) {
            int from = state * Layout.KEPT + Layout.ofThread(thread);
            return rows[from + Layout.BEGUN] != 0 && rows[from + Layout.ERROR] == 0;
        }

        private int stateInCycle() {
            if (firstInCycle == UNKNOWN) firstInCycle = cycles.lowest(next, states);
            return firstInCycle;
        }

        int choiceOfWalk(int state, int i) {
            if (i >= depths[state]) return NONE;
            int on = state;
            for (int n = depths[state] - 1; n > i; n--) on = parents[on];
            return choices[on];
        }

        /** How many different sequences of answers there are in ends that agree. */
        private int countResults() {
            Arrays.fill(places, 0);
            int count = 0;
            for (int state = 0; state < states; state++) {
                if ((traits[state] & (END | DISAGREES)) == END && isNewResult(state)) count++;
            }
            return count;
        }

        private boolean isNewResult(int state) {
            int from = state * Layout.KEPT + Layout.ANSWER;
            int hash = 0;
            for (int i = 0; i < SLOTS; i++) hash = hash * 211 + rows[from + i];
            int place = hash * 0x9E3779B1 >>> 20;
            for (int i = 0; i < PLACES && places[place] != 0; i++) {
                if (hasSameAnswers(places[place] - 1, from)) return false;
                place = place + 1 & PLACES - 1;
            }
            places[place] = state + 1;
            return true;
        }

        private boolean hasSameAnswers(int state, int from) {
            int other = state * Layout.KEPT + Layout.ANSWER;
            for (int i = 0; i < SLOTS; i++) {
                if (rows[other + i] != rows[from + i]) return false;
            }
            return true;
        }
    }

    /** Finds states in cycles by Tarjan's strongly connected components, with stacks of its own. */
    private static final class Cycles {
        // The time at which a state was found, from 1 on, and the earliest time that it can come back to.
        private final int[] found = new int[STATES];
        private final int[] low = new int[STATES];
        private final int[] tried = new int[STATES];
        private final int[] path = new int[STATES];
        private final int[] open = new int[STATES];
        private final boolean[] isOpen = new boolean[STATES];
        private int time = 0;
        private int length = 0;
        private int opened = 0;
        private int best = NONE;

        /** The lowest state in a cycle, or NONE. A choice that ends a call is in none, as calls never become fewer. */
        int lowest(int[] next, int states) {
            Arrays.fill(found, 0);
            Arrays.fill(tried, 0);
            time = 0;
            length = 0;
            opened = 0;
            best = NONE;
            // Every kept state was found from state 0, so that one search meets them all.
            discover(0);
            for (int turn = 0; turn < STATES * (CHOICES + 1) && length > 0; turn++) {
                int state = path[length - 1];
                if (tried[state] < CHOICES) tryNext(state, next[state * CHOICES + tried[state]]);
                else leave(state);
            }
            return best;
        }

        private void discover(int state) {
            time++;
            found[state] = time;
            low[state] = time;
            path[length] = state;
            length++;
            open[opened] = state;
            opened++;
            isOpen[state] = true;
        }

        private void tryNext(int state, int to) {
            tried[state]++;
            if (to == NONE) return;
            if (to == state) note(state);
            else if (found[to] == 0) discover(to);
            else if (isOpen[to]) low[state] = Math.min(low[state], found[to]);
        }

        private void leave(int state) {
            length--;
            if (length > 0) {
                int back = path[length - 1];
                low[back] = Math.min(low[back], low[state]);
            }
            if (low[state] == found[state]) close(state);
        }

        /** Closes the component of a state; more than one state in it are in a cycle. */
        private void close(int root) {
            boolean alone = open[opened - 1] == root;
            for (int i = opened - 1; i >= 0; i--) {
                int state = open[i];
                isOpen[state] = false;
                opened = i;
                if (!alone) note(state);
                if (state == root) break;
            }
        }

        private void note(int state) {
            if (best == NONE || state < best) best = state;
        }
    }
}
