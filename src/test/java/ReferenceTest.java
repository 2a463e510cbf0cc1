import java.util.ArrayList;
import java.util.List;
import java.util.Random;

/** Makes many programs from fixed seeds and compares FreeShelf with the Reference in every answer. */
public final class ReferenceTest {
    private static final Due DUE = new Due("ReferenceTest");
    private static final int PROGRAMS = 900;

    // Routines that work (and some that fail in a known way), to be mixed and varied. Rows: op, a, b, c.
    static final int[][][] KNOWN = {
        // push and pop of a stack
        {{8, 1, 0, 0}, {3, 1, 1, 0}, {0, 2, 0, 0}, {3, 1, 0, 2}, {4, 0, 2, 1}, {20, 3, 1, 0}, {25, 5, 3, 8}, {24, 2, 0, 0},
            {13, 0, 0, 0}},
        {{0, 1, 0, 0}, {21, 2, 0, 0}, {25, 1, 2, 11}, {1, 3, 1, 1}, {4, 0, 1, 3}, {20, 4, 1, 0}, {25, 5, 4, 8},
            {24, 0, 0, 0}, {1, 4, 1, 1}, {9, 1, 0, 0}, {13, 4, 0, 0}, {13, 1, 0, 0}},
        // pop with the right field, and with a guard that is checked
        {{0, 1, 0, 0}, {10, 0, 1, 0}, {0, 2, 0, 0}, {25, 1, 2, 5}, {24, 0, 0, 0}, {21, 2, 0, 0}, {25, 1, 2, 15},
            {1, 3, 1, 0}, {4, 0, 1, 3}, {20, 4, 1, 0}, {25, 5, 4, 12}, {24, 0, 0, 0}, {1, 4, 1, 1}, {9, 1, 0, 0},
            {13, 4, 0, 0}, {13, 1, 0, 0}},
        // pop inside an epoch
        {{11, 0, 0, 0}, {0, 1, 0, 0}, {21, 2, 0, 0}, {25, 1, 2, 12}, {1, 3, 1, 0}, {4, 0, 1, 3}, {20, 4, 1, 0},
            {25, 5, 4, 9}, {24, 1, 0, 0}, {1, 4, 1, 1}, {9, 1, 0, 0}, {13, 4, 0, 0}, {13, 2, 0, 0}},
        // adding, well and badly
        {{6, 0, 1, 0}, {13, 5, 0, 0}},
        {{0, 1, 0, 0}, {20, 2, 0, 0}, {21, 3, 0, 0}, {25, 1, 3, 5}, {26, 1, 1, 0}, {2, 0, 1, 0}, {13, 1, 0, 0}},
        // writes that may be delayed
        {{2, 0, 0, 0}, {0, 1, 1, 0}, {13, 1, 0, 0}},
        {{2, 1, 0, 0}, {0, 1, 0, 0}, {13, 1, 0, 0}},
        {{2, 0, 0, 0}, {7, 0, 0, 0}, {0, 1, 1, 0}, {13, 1, 0, 0}},
        {{2, 0, 0, 0}, {2, 1, 0, 0}, {2, 2, 0, 0}, {2, 3, 0, 0}, {2, 0, 1, 0}, {0, 2, 0, 0}, {13, 2, 0, 0}},
        // a cell
        {{2, 2, 0, 0}, {13, 0, 0, 0}},
        {{0, 1, 2, 0}, {13, 1, 0, 0}},
        // taking and releasing
        {{8, 0, 0, 0}, {10, 0, 0, 0}, {9, 0, 0, 0}, {8, 1, 0, 0}, {9, 1, 0, 0}, {13, 0, 0, 0}},
        {{11, 0, 0, 0}, {8, 0, 0, 0}, {9, 0, 0, 0}, {12, 0, 0, 0}, {13, 0, 0, 0}},
        {{8, 1, 0, 0}, {2, 0, 1, 0}, {20, 2, 1, 0}, {5, 1, 3, 2}, {1, 3, 1, 0}, {23, 3, 1, 0}, {13, 3, 0, 0}},
        {{0, 1, 0, 0}, {9, 1, 0, 0}, {13, 0, 0, 0}},
        // loops and locks
        {{0, 1, 0, 0}, {24, 0, 0, 0}},
        {{20, 2, 1, 0}, {21, 1, 0, 0}, {4, 3, 1, 2}, {25, 5, 2, 5}, {24, 2, 0, 0}, {6, 0, 1, 0}, {22, 4, 5, 0},
            {2, 3, 1, 0}, {13, 4, 0, 0}},
        {{24, 0, 0, 0}},
        {{11, 0, 0, 0}, {12, 0, 0, 0}, {24, 0, 0, 0}},
    };
    private static final int[] MEMORY = {0, 0, 1, 2, 2, 3, 4, 5, 6, 7, 8, 9, 10, 11, 12, 13};

    public static void main(String[] args) {
        int[] sizes = new int[4];
        for (int seed = 0; seed < PROGRAMS && DUE.wrong() < 20; seed++) {
            Random random = new Random(seed);
            Reference.Program program = new Reference.Program();
            FreeShelf x = new FreeShelf();
            fill(random, program, x, seed);
            String name = "program " + seed;
            compareRun(random, program, x, name);
            sizes[compareExploration(random, program, x, name)]++;
        }
        DUE.is("some programs start with an error", sizes[0] > 10 ? 1 : 0, 1);
        DUE.is("some explorations are small", sizes[1] > 100 ? 1 : 0, 1);
        DUE.is("some explorations are large", sizes[2] > 100 ? 1 : 0, 1);
        DUE.is("some explorations are incomplete", sizes[3] > 20 ? 1 : 0, 1);
        DUE.close();
    }

    // ---- programs

    private static void fill(Random random, Reference.Program program, FreeShelf x, int seed) {
        boolean wild = seed % 3 == 2;
        for (int r = 0; r < 6; r++) {
            if (random.nextInt(12) == 0) continue;
            List<int[]> rows = new ArrayList<>();
            if (!wild) rows.addAll(List.of(KNOWN[random.nextInt(KNOWN.length)]));
            else for (int i = random.nextInt(8); i >= 0; i--) rows.add(anyAct(random));
            if (wild) rows.add(new int[] {13, random.nextInt(6), 0, 0});
            if (random.nextInt(3) == 0) rows.set(random.nextInt(rows.size()), anyAct(random));
            if (random.nextInt(4) == 0) rows.add(random.nextInt(rows.size()), anyAct(random));
            addRoutine(random, program, x, r, rows);
        }
        program.manner = random.nextInt(5);
        program.late = random.nextInt(3) == 0;
        program.model = random.nextInt(5);
        x.manner(program.manner);
        x.late(program.late);
        x.model(program.model);
        addCalls(random, program, x);
    }

    private static void addRoutine(Random random, Reference.Program program, FreeShelf x, int r, List<int[]> rows) {
        List<Reference.Act> acts = new ArrayList<>();
        for (int i = 0; i < rows.size(); i++) {
            int[] row = rows.get(i);
            DUE.is("act", x.act(r, row[0], row[1], row[2], row[3]), i + 1);
            boolean moment = row[0] <= 6 && random.nextInt(2) == 0;
            if (moment) DUE.is("moment", x.moment(r, i, true), 0);
            acts.add(new Reference.Act(row[0], row[1], row[2], row[3], moment));
        }
        program.routines.set(r, acts);
        program.means[r] = random.nextInt(3);
        x.means(r, program.means[r]);
    }

    static int[] anyAct(Random random) {
        int op = random.nextInt(2) == 0 ? MEMORY[random.nextInt(MEMORY.length)] : 20 + random.nextInt(7);
        int few = random.nextInt(3);
        int local = random.nextInt(few == 0 ? 6 : 3);
        int other = random.nextInt(few == 0 ? 6 : 3);
        int third = random.nextInt(few == 0 ? 6 : 3);
        int global = random.nextInt(few == 0 ? 8 : 2);
        int bit = random.nextInt(2);
        int number = few == 0 ? random.nextInt(199) - 99 : random.nextInt(3) - 1;
        int place = random.nextInt(few == 0 ? 41 : 10);
        return switch (op) {
            case 0 -> new int[] {op, local, global, 7};
            case 1 -> new int[] {op, local, other, bit};
            case 2 -> new int[] {op, global, local, -5};
            case 3 -> new int[] {op, local, bit, other};
            case 4 -> new int[] {op, global, local, other};
            case 5 -> new int[] {op, local, other, third};
            case 6 -> new int[] {op, global, number, 0};
            case 10 -> new int[] {op, bit, local, 0};
            case 20, 26 -> new int[] {op, local, number, 0};
            case 22 -> new int[] {op, local, other, 0};
            case 23 -> new int[] {op, local, bit, 0};
            case 24 -> new int[] {op, place, 0, 0};
            case 25 -> new int[] {op, local, other, place};
            default -> new int[] {op, local, 100, -100};
        };
    }

    private static void addCalls(Random random, Reference.Program program, FreeShelf x) {
        int most = random.nextInt(4) == 0 ? 6 : 3;
        for (int i = 0; i < most; i++) addCall(random, program, x, random.nextInt(3));
        for (int i = random.nextInt(5) - 1; i > 0; i--) addCall(random, program, x, 3);
    }

    private static void addCall(Random random, Reference.Program program, FreeShelf x, int thread) {
        int routine = random.nextInt(6);
        int argument = random.nextInt(4) == 0 ? random.nextInt(199) - 99 : random.nextInt(4);
        int room = thread == 3 ? 4 : 3;
        boolean full = program.calls.get(thread).size() == room;
        int got = x.call(thread, routine, argument);
        if (!full) program.calls.get(thread).add(new Reference.Call(routine, argument));
        DUE.is("call", got, full ? -3 : program.calls.get(thread).size());
    }

    // ---- comparisons

    private static void compareRun(Random random, Reference.Program program, FreeShelf x, String name) {
        Reference r = new Reference(program);
        int error = r.start();
        DUE.is(name + " begin", x.begin(), error == 0 ? 1 : -10 - error);
        if (error != 0) return;
        compareState(r, x, name + " at its beginning");
        int made = 0;
        for (int i = 0; i < 60; i++) {
            int choice = random.nextInt(6);
            boolean possible = r.possible(r.now, choice);
            DUE.is(name + " may", x.may(choice), possible ? 1 : 0);
            if (possible) {
                r.choose(choice);
                made++;
            }
            DUE.is(name + " step", x.step(choice), possible ? made : -2);
            if (possible) compareState(r, x, name + " after " + made);
        }
    }

    private static void compareState(Reference r, FreeShelf x, String name) {
        for (int w = 0; w < 20; w++) for (int what = 0; what < 4; what++) {
            DUE.is(name + " word " + w + " " + what, x.word(w, what), part(r.now.words[w], what));
        }
        for (int k = 0; k < 6; k++) DUE.is(name + " node " + k, x.node(k), r.now.nodes[k]);
        DUE.is(name + " epoch", x.epoch(), r.now.epoch);
        for (int t = 0; t < 3; t++) compareThread(r, x, t, name + " thread " + t);
        boolean end = r.isEnd(r.now);
        DUE.is(name + " agrees", x.agrees(), !end ? -2 : r.agrees(r.now) ? 1 : 0);
        DUE.is(name + " keeps", x.keeps(), !end || r.program.model == 0 ? -2 : r.keeps(r.now) ? 1 : 0);
    }

    private static void compareThread(Reference r, FreeShelf x, int t, String name) {
        Reference.Thr th = r.now.threads[t];
        int[] due = {th.over, th.begun ? 1 : 0, th.place, th.error, th.buffer.size(), orNone(th.guards[0]),
            orNone(th.guards[1]), orNone(th.inside)};
        for (int what = 0; what < 8; what++) DUE.is(name + " " + what, x.thread(t, what), due[what]);
        for (int l = 0; l < 6; l++) for (int what = 0; what < 4; what++) {
            DUE.is(name + " local " + l + " " + what, x.local(t, l, what), part(th.locals[l], what));
        }
        for (int i = 0; i < 3; i++) DUE.is(name + " answer " + i, x.answer(t, i), r.now.answers.getOrDefault(3 * t + i, -4));
    }

    private static int orNone(int n) {
        return n < 0 ? -4 : n;
    }

    private static int part(Reference.Cell cell, int what) {
        return switch (what) {
            case 0 -> cell.val().kind();
            case 1 -> cell.val().n();
            case 2 -> cell.val().mark();
            default -> cell.count();
        };
    }

    /** Returns 0 after an error, 1 after a small exploration, 2 after a large one, 3 after an incomplete one. */
    private static int compareExploration(Random random, Reference.Program program, FreeShelf x, String name) {
        Reference r = new Reference(program);
        int error = r.start();
        if (error != 0) {
            DUE.is(name + " explore", x.explore(), -10 - error);
            DUE.is(name + " explored", x.explored(0), -2);
            return 0;
        }
        r.explore();
        DUE.is(name + " explore", x.explore(), r.incomplete ? -5 : r.kept.size());
        for (int what = 0; what < 8; what++) DUE.is(name + " explored " + what, x.explored(what), r.explored(what));
        for (int what = 0; what < 12; what++) DUE.is(name + " first " + what, x.first(what), r.first(what));
        DUE.is(name + " answers", x.answers(), r.answers());
        for (int s = 0; s < r.kept.size(); s++) compareKept(r, x, s, name + " state " + s);
        DUE.is(name + " no state", x.next(r.kept.size(), 0), -2);
        for (int i = 0; i < 5; i++) compareGo(r, x, random.nextInt(r.kept.size()), name);
        return r.incomplete ? 3 : r.kept.size() > 60 ? 2 : 1;
    }

    private static void compareKept(Reference r, FreeShelf x, int s, String name) {
        for (int c = 0; c < 6; c++) DUE.is(name + " next " + c, x.next(s, c), r.next.get(s)[c]);
        List<Integer> walk = r.walks.get(s);
        for (int i = 0; i < walk.size(); i++) DUE.is(name + " walk " + i, x.walk(s, i), walk.get(i));
        DUE.is(name + " walk's end", x.walk(s, walk.size()), -4);
    }

    private static void compareGo(Reference r, FreeShelf x, int s, String name) {
        List<Integer> walk = r.walks.get(s);
        DUE.is(name + " go " + s, x.go(s), walk.size() > 100 ? -3 : walk.size());
        if (walk.size() > 100) return;
        r.now = r.kept.get(s).copy();
        compareState(r, x, name + " gone to " + s);
        int last = walk.isEmpty() ? -1 : walk.get(walk.size() - 1);
        int made = 0;
        while (made < 30 && walk.size() + made < 100 && !r.isEnd(r.now)) {
            do last = (last + 1) % 6; while (!r.possible(r.now, last));
            r.choose(last);
            made++;
        }
        DUE.is(name + " run from " + s, x.run(30), made);
        compareState(r, x, name + " run from " + s);
    }
}
