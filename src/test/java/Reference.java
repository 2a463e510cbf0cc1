import java.util.ArrayDeque;
import java.util.ArrayList;
import java.util.Arrays;
import java.util.HashMap;
import java.util.HashSet;
import java.util.List;
import java.util.Map;
import java.util.Set;
import java.util.TreeMap;
import java.util.TreeSet;

/**
 * The document once more, in the plainest form: states are objects that are copied, compared by a text that lists
 * all their parts. It knows nothing of how FreeShelf keeps its states. Only valid arguments are given to it.
 */
final class Reference {
    record Act(int op, int a, int b, int c, boolean moment) { }

    record Call(int routine, int argument) { }

    /** kind 0 nothing, 1 number, 2 node. */
    record Val(int kind, int n, int mark) {
        static final Val NOTHING = new Val(0, 0, 0);

        static Val number(int n) {
            return new Val(1, n > 99 ? 99 : n < -99 ? -99 : n, 0);
        }

        static Val node(int k) {
            return new Val(2, k, 0);
        }
    }

    /** A value with a count. */
    record Cell(Val val, int count) {
        static final Cell EMPTY = new Cell(Val.NOTHING, 0);
    }

    record Delayed(int word, Val val) { }

    static final class Program {
        final List<List<Act>> routines = new ArrayList<>(); // null: missing
        final int[] means = new int[6];
        final List<List<Call>> calls = new ArrayList<>();
        int manner;
        boolean late;
        int model;

        Program() {
            for (int i = 0; i < 6; i++) routines.add(null);
            for (int i = 0; i < 4; i++) calls.add(new ArrayList<>());
        }
    }

    static final class Thr {
        Cell[] locals = new Cell[6];
        int[] guards = {-1, -1};
        int inside = -1;
        int place;
        int over;
        boolean begun;
        int error;
        List<Delayed> buffer = new ArrayList<>();

        Thr() {
            Arrays.fill(locals, Cell.EMPTY);
        }

        Thr copy() {
            Thr t = new Thr();
            t.locals = locals.clone();
            t.guards = guards.clone();
            t.inside = inside;
            t.place = place;
            t.over = over;
            t.begun = begun;
            t.error = error;
            t.buffer = new ArrayList<>(buffer);
            return t;
        }

        String text() {
            return Arrays.toString(locals) + Arrays.toString(guards) + inside + "," + place + "," + over + begun
                + error + buffer;
        }
    }

    static final class State {
        Cell[] words = new Cell[20];
        int[] nodes = new int[6]; // 0 free, 1 taken, 2 released
        int[] releasedIn = new int[6];
        int epoch;
        Thr[] threads = {new Thr(), new Thr(), new Thr(), new Thr()};
        Map<Integer, Integer> answers = new TreeMap<>();
        Map<Integer, Set<Integer>> before = new TreeMap<>();
        List<Integer> moments = new ArrayList<>();

        State() {
            Arrays.fill(words, Cell.EMPTY);
        }

        State copy() {
            State s = new State();
            s.words = words.clone();
            s.nodes = nodes.clone();
            s.releasedIn = releasedIn.clone();
            s.epoch = epoch;
            for (int t = 0; t < 4; t++) s.threads[t] = threads[t].copy();
            s.answers = new TreeMap<>(answers);
            s.before = new TreeMap<>(before);
            s.moments = new ArrayList<>(moments);
            return s;
        }

        String text(int manner) {
            StringBuilder text = new StringBuilder();
            text.append(Arrays.toString(words)).append(Arrays.toString(nodes)).append(epoch).append(answers);
            for (int k = 0; k < 6; k++) if (manner == 4 && nodes[k] == 2) text.append("r").append(releasedIn[k]);
            text.append(before).append(moments);
            for (int t = 0; t < 3; t++) text.append(threads[t].text());
            return text.toString();
        }
    }

    /** A thread meets an error by this. */
    static final class Met extends Exception {
        private static final long serialVersionUID = 1;

        final int error;

        Met(int error) {
            this.error = error;
        }
    }

    final Program program;
    State now = new State();
    boolean starting;

    Reference(Program program) {
        this.program = program;
    }

    /** Does the start calls; the error, or 0. */
    int start() {
        now = new State();
        starting = true;
        for (int i = 0; i < program.calls.get(3).size(); i++) {
            int steps = 0;
            while (now.threads[3].over == i) {
                if (steps == 60) return 6;
                step(3);
                steps++;
                if (now.threads[3].error != 0) return now.threads[3].error;
            }
        }
        starting = false;
        return 0;
    }

    boolean possible(State s, int choice) {
        if (choice >= 3) return !s.threads[choice - 3].buffer.isEmpty();
        Thr t = s.threads[choice];
        return t.error == 0 && (t.begun || t.over < program.calls.get(choice).size());
    }

    boolean isEnd(State s) {
        for (int c = 0; c < 6; c++) if (possible(s, c)) return false;
        return true;
    }

    void choose(int choice) {
        if (choice < 3) step(choice);
        else come(now.threads[choice - 3]);
    }

    private void step(int t) {
        Thr th = now.threads[t];
        try {
            int own = 0;
            Call call = program.calls.get(t).get(th.over);
            int id = t * 3 + th.over;
            List<Act> acts = program.routines.get(call.routine());
            if (!th.begun) {
                th.begun = true;
                Arrays.fill(th.locals, Cell.EMPTY);
                th.locals[0] = new Cell(Val.number(call.argument()), 0);
                th.place = 0;
                if (t < 3) now.before.put(id, overNow());
                if (acts == null) throw new Met(1);
                own = owns(th, acts, own);
            }
            if (th.place >= acts.size()) throw new Met(3);
            Act act = acts.get(th.place);
            memory(t, th, act, id);
            if (act.moment() && t < 3 && (act.op() != 4 && act.op() != 5 || th.locals[5].val().n() == 1)) {
                now.moments.remove((Integer) id);
                now.moments.add(id);
            }
            if (th.begun) {
                th.place++;
                owns(th, acts, own);
            }
        } catch (Met met) {
            th.error = met.error;
        }
    }

    private Set<Integer> overNow() {
        Set<Integer> over = new TreeSet<>();
        for (int t = 0; t < 3; t++) for (int i = 0; i < now.threads[t].over; i++) over.add(t * 3 + i);
        return over;
    }

    private int owns(Thr th, List<Act> acts, int done) throws Met {
        int own = done;
        while (th.place < acts.size() && acts.get(th.place).op() >= 20) {
            Act act = acts.get(th.place);
            if (act.op() == 26) need(th.locals[act.a()], 1);
            if (own == 30) throw new Met(6);
            own++;
            th.place = own(th, act);
        }
        return own;
    }

    private int own(Thr th, Act act) {
        Cell was = act.op() == 24 ? null : th.locals[act.a()];
        switch (act.op()) {
            case 20 -> th.locals[act.a()] = new Cell(Val.number(act.b()), 0);
            case 21 -> th.locals[act.a()] = Cell.EMPTY;
            case 22 -> th.locals[act.a()] = th.locals[act.b()];
            case 23 -> {
                if (was.val().kind() != 0) {
                    th.locals[act.a()] = new Cell(new Val(was.val().kind(), was.val().n(), act.b()), was.count());
                }
            }
            case 24 -> {
                return act.a();
            }
            case 25 -> {
                if (was.val().equals(th.locals[act.b()].val())) return act.c();
            }
            default -> th.locals[act.a()] = new Cell(Val.number(was.val().n() + act.b()), 0);
        }
        return th.place + 1;
    }

    private static void need(Cell cell, int kind) throws Met {
        if (cell.val().kind() == 0) throw new Met(1);
        if (cell.val().kind() != kind) throw new Met(2);
    }

    private int fieldWord(Cell cell, int field) throws Met {
        need(cell, 2);
        if (now.nodes[cell.val().n()] == 0) throw new Met(4);
        return 8 + 2 * cell.val().n() + field;
    }

    private void memory(int t, Thr th, Act act, int id) throws Met {
        Cell[] l = th.locals;
        if (Set.of(4, 5, 6, 7, 9, 13).contains(act.op())) while (!th.buffer.isEmpty()) come(th);
        switch (act.op()) {
            case 0 -> l[act.a()] = view(th, act.b());
            case 1 -> l[act.a()] = view(th, fieldWord(l[act.b()], act.c()));
            case 2 -> delay(th, act.a(), l[act.b()].val());
            case 3 -> delay(th, fieldWord(l[act.a()], act.b()), l[act.c()].val());
            case 4 -> swap(th, act.a(), l[act.b()], l[act.c()].val());
            case 5 -> swap(th, fieldWord(l[act.a()], 0), l[act.b()], l[act.c()].val());
            case 6 -> {
                Val old = now.words[act.a()].val();
                if (old.kind() == 2) throw new Met(2);
                Val sum = Val.number((old.kind() == 0 ? 0 : old.n()) + act.b());
                give(act.a(), sum);
                l[5] = new Cell(sum, 0);
            }
            case 7 -> { }
            case 8 -> {
                int k = 0;
                while (k < 6 && now.nodes[k] != 0) k++;
                if (k < 6) {
                    now.nodes[k] = 1;
                    for (int w = 8 + 2 * k; w < 10 + 2 * k; w++) now.words[w] = new Cell(Val.NOTHING, now.words[w].count());
                }
                l[act.a()] = k < 6 ? new Cell(Val.node(k), 0) : Cell.EMPTY;
            }
            case 9 -> {
                need(l[act.a()], 2);
                int k = l[act.a()].val().n();
                if (now.nodes[k] != 1) throw new Met(5);
                now.nodes[k] = program.manner == 1 || program.manner == 2 ? 0 : 2;
                now.releasedIn[k] = now.epoch;
                settle(9);
            }
            case 10 -> {
                Val v = l[act.b()].val();
                th.guards[act.a()] = v.kind() == 2 ? v.n() : -1;
                settle(10);
            }
            case 11 -> {
                th.inside = now.epoch;
                settle(11);
            }
            case 12 -> {
                th.inside = -1;
                settle(12);
            }
            default -> {
                Val v = l[act.a()].val();
                if (t < 3) now.answers.put(id, v.kind() == 0 ? -100 : v.kind() == 2 ? 100 : v.n());
                Arrays.fill(l, Cell.EMPTY);
                th.guards = new int[] {-1, -1};
                th.inside = -1;
                th.place = 0;
                th.begun = false;
                th.over++;
                settle(13);
            }
        }
    }

    private void settle(int op) {
        if (program.manner == 3 && (op == 9 || op == 10 || op == 13)) {
            for (int k = 0; k < 6; k++) {
                boolean held = false;
                for (Thr th : now.threads) held |= th.guards[0] == k || th.guards[1] == k;
                if (now.nodes[k] == 2 && !held) now.nodes[k] = 0;
            }
        }
        if (program.manner == 4 && op != 10) {
            boolean turns = false;
            for (int k = 0; k < 6; k++) turns |= now.nodes[k] == 2;
            for (Thr th : now.threads) turns &= th.inside == -1 || th.inside == now.epoch;
            if (turns) now.epoch++;
            for (int k = 0; k < 6; k++) if (now.nodes[k] == 2 && now.releasedIn[k] + 2 <= now.epoch) now.nodes[k] = 0;
        }
    }

    private Cell view(Thr th, int word) {
        Val val = now.words[word].val();
        for (Delayed d : th.buffer) if (d.word() == word) val = d.val();
        return new Cell(val, now.words[word].count());
    }

    private void delay(Thr th, int word, Val val) {
        if (!program.late || starting) {
            give(word, val);
            return;
        }
        if (th.buffer.size() == 4) come(th);
        th.buffer.add(new Delayed(word, val));
    }

    private void come(Thr th) {
        Delayed d = th.buffer.remove(0);
        give(d.word(), d.val());
    }

    private void give(int word, Val val) {
        int count = now.words[word].count();
        now.words[word] = new Cell(val, program.manner == 2 ? (count + 1) % 4 : count);
    }

    private void swap(Thr th, int word, Cell expected, Val fresh) {
        Cell is = now.words[word];
        boolean hit = is.val().equals(expected.val()) && (program.manner != 2 || is.count() == expected.count());
        if (hit) give(word, fresh);
        th.locals[5] = new Cell(Val.number(hit ? 1 : 0), 0);
    }

    // ---- ends

    List<Integer> ids() {
        List<Integer> ids = new ArrayList<>();
        for (int t = 0; t < 3; t++) for (int i = 0; i < program.calls.get(t).size(); i++) ids.add(t * 3 + i);
        return ids;
    }

    boolean failed(State s) {
        return s.threads[0].error != 0 || s.threads[1].error != 0 || s.threads[2].error != 0;
    }

    boolean agrees(State s) {
        if (failed(s)) return false;
        return program.model == 0 || someOrder(s, new ArrayList<>(), ids());
    }

    private boolean someOrder(State s, List<Integer> order, List<Integer> rest) {
        if (rest.isEmpty()) return isRight(s, order);
        for (Integer id : rest) {
            if (!order.containsAll(s.before.get(id))) continue;
            List<Integer> longer = new ArrayList<>(order);
            longer.add(id);
            List<Integer> fewer = new ArrayList<>(rest);
            fewer.remove(id);
            if (someOrder(s, longer, fewer)) return true;
        }
        return false;
    }

    boolean keeps(State s) {
        return !failed(s) && s.moments.size() == ids().size() && isRight(s, s.moments);
    }

    private boolean isRight(State s, List<Integer> order) {
        ArrayDeque<Integer> shelf = new ArrayDeque<>();
        int[] sum = new int[1];
        for (Call call : program.calls.get(3)) due(call, shelf, sum);
        for (int id : order) {
            Call call = program.calls.get(id / 3).get(id % 3);
            Integer due = due(call, shelf, sum);
            if (due != null && !due.equals(s.answers.get(id))) return false;
        }
        return true;
    }

    /** The answer that a call must have, or null if it is arbitrary. */
    private Integer due(Call call, ArrayDeque<Integer> shelf, int[] sum) {
        int means = program.means[call.routine()];
        if (means == 0) return null;
        boolean put = means == 1;
        switch (program.model) {
            case 1, 2 -> {
                if (put) {
                    shelf.addLast(call.argument());
                    return null;
                }
                if (shelf.isEmpty()) return -100;
                return program.model == 1 ? shelf.removeLast() : shelf.removeFirst();
            }
            case 3 -> {
                if (put) sum[0] += call.argument();
                return sum[0];
            }
            default -> {
                if (put) sum[0] = call.argument();
                return put ? null : (Integer) sum[0];
            }
        }
    }

    // ---- exploration

    final List<State> kept = new ArrayList<>();
    final List<int[]> next = new ArrayList<>();
    final List<List<Integer>> walks = new ArrayList<>();
    boolean incomplete;

    void explore() {
        Map<String, Integer> numbers = new HashMap<>();
        kept.add(now.copy());
        walks.add(List.of());
        numbers.put(now.text(program.manner), 0);
        for (int s = 0; s < kept.size(); s++) {
            int[] to = new int[6];
            next.add(to);
            for (int c = 0; c < 6; c++) {
                to[c] = -4;
                if (!possible(kept.get(s), c)) continue;
                now = kept.get(s).copy();
                choose(c);
                Integer number = numbers.get(now.text(program.manner));
                if (number == null && kept.size() == 1500) incomplete = true;
                if (number == null && kept.size() < 1500) {
                    number = kept.size();
                    numbers.put(now.text(program.manner), number);
                    kept.add(now.copy());
                    List<Integer> walk = new ArrayList<>(walks.get(s));
                    walk.add(c);
                    walks.add(walk);
                }
                if (number != null) to[c] = number;
            }
        }
    }

    int explored(int what) {
        int count = 0;
        switch (what) {
            case 0 -> count = kept.size();
            case 4 -> {
                for (int[] to : next) for (int n : to) if (n >= 0) count++;
            }
            case 6 -> {
                for (State s : kept) count = Math.max(count, waiting(s));
            }
            case 7 -> count = incomplete ? 1 : 0;
            default -> {
                for (int s = 0; s < kept.size(); s++) if (has(s, what == 1 ? 9 : what == 5 ? 2 : what - 2)) count++;
            }
        }
        return count;
    }

    private static int waiting(State s) {
        int count = 0;
        for (int node : s.nodes) if (node == 2) count++;
        return count;
    }

    /** The properties that the method first counts, and 9: it is an end. */
    private boolean has(int number, int what) {
        State s = kept.get(number);
        return switch (what) {
            case 0 -> isEnd(s) && !agrees(s);
            case 1 -> isEnd(s) && program.model != 0 && !keeps(s);
            case 2 -> failed(s);
            case 3 -> !finishes(s, 0) || !finishes(s, 1) || !finishes(s, 2);
            case 4 -> comesBack(number);
            case 5 -> waiting(s) == explored(6);
            default -> isEnd(s);
        };
    }

    int first(int what) {
        int skip = Math.max(0, what - 6);
        for (int s = 0; s < kept.size(); s++) if (has(s, what >= 6 ? 9 : what) && skip-- == 0) return s;
        return -4;
    }

    private boolean finishes(State s, int t) {
        if (!s.threads[t].begun || s.threads[t].error != 0) return true;
        now = s.copy();
        for (int i = 0; i < 60; i++) {
            step(t);
            if (now.threads[t].error != 0 || now.threads[t].over > s.threads[t].over) return true;
        }
        return false;
    }

    private static int over(State s) {
        return s.threads[0].over + s.threads[1].over + s.threads[2].over;
    }

    private boolean comesBack(int from) {
        Set<Integer> reached = new HashSet<>();
        ArrayDeque<Integer> todo = new ArrayDeque<>(List.of(from));
        while (!todo.isEmpty()) {
            int s = todo.remove();
            for (int n : next.get(s)) {
                if (n < 0 || over(kept.get(n)) != over(kept.get(s))) continue;
                if (n == from) return true;
                if (reached.add(n)) todo.add(n);
            }
        }
        return false;
    }

    int answers() {
        Set<String> different = new HashSet<>();
        for (State s : kept) {
            if (!isEnd(s) || !agrees(s)) continue;
            StringBuilder text = new StringBuilder();
            for (int id : ids()) text.append(s.answers.get(id)).append(' ');
            different.add(text.toString());
        }
        return different.size();
    }
}
