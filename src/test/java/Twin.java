import java.util.ArrayList;
import java.util.List;

/**
 * The face of FreeShelf once more, in the plainest form: every method with its errors in the order in which the document
 * names them. What programs do is left to the Reference.
 */
final class Twin {
    private static final int BAD = -1, NO = -2, FULL = -3, NONE = -4, SPENT = -5, NO_NUMBER = -1000, NO_RUN = -2000;
    // How the operations use a, b and c: l local, g global, b field, guard or mark, n number, p act, - not at all.
    private static final String[] USES = {"lg-", "llb", "gl-", "lbl", "gll", "lll", "gn-", "---", "l--", "l--", "bl-", "---",
        "---", "l--", "", "", "", "", "", "", "ln-", "l--", "ll-", "lb-", "p--", "llp", "ln-"};

    private final Reference.Program plan = new Reference.Program();
    private Reference running = null;
    private List<Integer> made = new ArrayList<>();
    private Reference explored = null;
    private int explorations = 0;

    private static boolean in(int n, int low, int high) {
        return low <= n && n <= high;
    }

    // ---- routines and programs

    int act(int routine, int op, int a, int b, int c) {
        if (!in(routine, 0, 5) || !in(op, 0, 13) && !in(op, 20, 26)) return BAD;
        int[] numbers = {a, b, c};
        for (int i = 0; i < 3; i++) if (!fits(USES[op].charAt(i), numbers[i])) return BAD;
        List<Reference.Act> acts = plan.routines.get(routine);
        if (acts == null) acts = new ArrayList<>();
        if (acts.size() == 30) return FULL;
        acts.add(new Reference.Act(op, a, b, c, false));
        plan.routines.set(routine, acts);
        return acts.size();
    }

    private static boolean fits(char use, int n) {
        return switch (use) {
            case 'l' -> in(n, 0, 5);
            case 'g' -> in(n, 0, 7);
            case 'b' -> in(n, 0, 1);
            case 'n' -> in(n, -99, 99);
            case 'p' -> in(n, 0, 40);
            default -> true;
        };
    }

    int tear(int routine, int n) {
        if (!in(routine, 0, 5)) return BAD;
        List<Reference.Act> acts = plan.routines.get(routine);
        int had = acts == null ? 0 : acts.size();
        if (!in(n, -1, had)) return BAD;
        if (n == -1) plan.routines.set(routine, null);
        else plan.routines.set(routine, acts == null ? new ArrayList<>() : new ArrayList<>(acts.subList(0, n)));
        return had;
    }

    int means(int routine, int what) {
        if (!in(routine, 0, 5) || !in(what, 0, 2)) return BAD;
        int before = plan.means[routine];
        plan.means[routine] = what;
        return before;
    }

    private Reference.Act find(int routine, int place) {
        if (!in(routine, 0, 5) || plan.routines.get(routine) == null) return null;
        List<Reference.Act> acts = plan.routines.get(routine);
        return in(place, 0, acts.size() - 1) ? acts.get(place) : null;
    }

    int moment(int routine, int place, boolean is) {
        Reference.Act act = find(routine, place);
        if (act == null || act.op() > 6) return BAD;
        plan.routines.get(routine).set(place, new Reference.Act(act.op(), act.a(), act.b(), act.c(), is));
        return act.moment() ? 1 : 0;
    }

    private int total() {
        return plan.calls.get(0).size() + plan.calls.get(1).size() + plan.calls.get(2).size();
    }

    int call(int thread, int routine, int argument) {
        if (!in(thread, 0, 3) || !in(routine, 0, 5) || !in(argument, -99, 99)) return BAD;
        List<Reference.Call> calls = plan.calls.get(thread);
        if (calls.size() == (thread == 3 ? 4 : 3) || thread != 3 && total() == 6) return FULL;
        calls.add(new Reference.Call(routine, argument));
        return calls.size();
    }

    int clear() {
        int had = total() + plan.calls.get(3).size();
        for (List<Reference.Call> calls : plan.calls) calls.clear();
        return had;
    }

    int manner(int m) {
        if (!in(m, 0, 4)) return BAD;
        int before = plan.manner;
        plan.manner = m;
        return before;
    }

    int late(boolean is) {
        int before = plan.late ? 1 : 0;
        plan.late = is;
        return before;
    }

    int model(int m) {
        if (!in(m, 0, 4)) return BAD;
        int before = plan.model;
        plan.model = m;
        return before;
    }

    int told(int routine, int place, int what) {
        if (in(routine, 0, 5) && place == -1) {
            List<Reference.Act> acts = plan.routines.get(routine);
            if (what == 0) return acts == null ? NONE : acts.size();
            return what == 1 ? plan.means[routine] : NO_NUMBER;
        }
        Reference.Act act = find(routine, place);
        if (act == null || !in(what, 0, 4)) return NO_NUMBER;
        return new int[] {act.op(), act.a(), act.b(), act.c(), act.moment() ? 1 : 0}[what];
    }

    /** The program as it is now, which later changes leave alone. */
    private Reference.Program copyOfPlan() {
        Reference.Program copy = new Reference.Program();
        for (int r = 0; r < 6; r++) {
            List<Reference.Act> acts = plan.routines.get(r);
            copy.routines.set(r, acts == null ? null : new ArrayList<>(acts));
            copy.means[r] = plan.means[r];
        }
        for (int t = 0; t < 4; t++) copy.calls.get(t).addAll(plan.calls.get(t));
        copy.manner = plan.manner;
        copy.late = plan.late;
        copy.model = plan.model;
        return copy;
    }

    // ---- a run

    int begin() {
        if (total() == 0) return NO;
        running = null;
        Reference fresh = new Reference(copyOfPlan());
        int error = fresh.start();
        if (error != 0) return -10 - error;
        running = fresh;
        made = new ArrayList<>();
        return 1;
    }

    int step(int choice) {
        if (!in(choice, 0, 5)) return BAD;
        if (running == null || !running.possible(running.now, choice)) return NO;
        if (made.size() == 100) return FULL;
        running.choose(choice);
        made.add(choice);
        return made.size();
    }

    int may(int choice) {
        if (!in(choice, 0, 5)) return BAD;
        if (running == null) return NO;
        return running.possible(running.now, choice) ? 1 : 0;
    }

    int run(int n) {
        if (!in(n, 1, 100)) return BAD;
        if (running == null) return NO;
        int done = 0;
        while (done < n && made.size() < 100 && !running.isEnd(running.now)) {
            int choice = made.isEmpty() ? 0 : (made.get(made.size() - 1) + 1) % 6;
            while (!running.possible(running.now, choice)) choice = (choice + 1) % 6;
            running.choose(choice);
            made.add(choice);
            done++;
        }
        return done;
    }

    private static int part(Reference.Cell cell, int what) {
        Reference.Val val = cell.val();
        return new int[] {val.kind(), val.n(), val.mark(), cell.count()}[what];
    }

    int word(int w, int what) {
        if (!in(w, 0, 19) || !in(what, 0, 3)) return NO_NUMBER;
        return running == null ? NO_RUN : part(running.now.words[w], what);
    }

    int local(int thread, int l, int what) {
        if (!in(thread, 0, 2) || !in(l, 0, 5) || !in(what, 0, 3)) return NO_NUMBER;
        return running == null ? NO_RUN : part(running.now.threads[thread].locals[l], what);
    }

    int node(int k) {
        if (!in(k, 0, 5)) return BAD;
        return running == null ? NO : running.now.nodes[k];
    }

    int thread(int t, int what) {
        if (!in(t, 0, 2) || !in(what, 0, 7)) return BAD;
        if (running == null) return NO;
        Reference.Thr th = running.now.threads[t];
        return switch (what) {
            case 0 -> th.over;
            case 1 -> th.begun ? 1 : 0;
            case 2 -> th.begun ? th.place : 0;
            case 3 -> th.error;
            case 4 -> th.buffer.size();
            case 5, 6 -> th.guards[what - 5] < 0 ? NONE : th.guards[what - 5];
            default -> th.inside < 0 ? NONE : th.inside;
        };
    }

    int answer(int thread, int i) {
        if (!in(thread, 0, 2) || !in(i, 0, 2)) return NO_NUMBER;
        if (running == null) return NO_RUN;
        Integer answer = running.now.answers.get(3 * thread + i);
        return answer == null ? NONE : answer;
    }

    int epoch() {
        return running == null ? NO : running.now.epoch;
    }

    int agrees() {
        if (running == null || !running.isEnd(running.now)) return NO;
        return running.agrees(running.now) ? 1 : 0;
    }

    int keeps() {
        if (running == null || !running.isEnd(running.now) || running.program.model == 0) return NO;
        return running.keeps(running.now) ? 1 : 0;
    }

    // ---- exploration

    int explore() {
        if (total() == 0) return NO;
        if (explorations == 12) return FULL;
        explorations++;
        explored = null;
        Reference fresh = new Reference(copyOfPlan());
        int error = fresh.start();
        if (error != 0) return -10 - error;
        fresh.explore();
        explored = fresh;
        return fresh.incomplete ? SPENT : fresh.kept.size();
    }

    int explored(int what) {
        if (!in(what, 0, 7)) return BAD;
        return explored == null ? NO : explored.explored(what);
    }

    int first(int what) {
        if (what < 0) return BAD;
        return explored == null ? NO : explored.first(what);
    }

    private boolean isState(int state) {
        return explored != null && in(state, 0, explored.kept.size() - 1);
    }

    int walk(int state, int i) {
        if (i < 0) return BAD;
        if (!isState(state)) return NO;
        List<Integer> walk = explored.walks.get(state);
        return i < walk.size() ? walk.get(i) : NONE;
    }

    int next(int state, int choice) {
        if (!in(choice, 0, 5)) return BAD;
        return isState(state) ? explored.next.get(state)[choice] : NO;
    }

    int go(int state) {
        if (!isState(state)) return NO;
        List<Integer> walk = explored.walks.get(state);
        if (walk.size() > 100) return FULL;
        running = new Reference(explored.program);
        running.now = explored.kept.get(state).copy();
        made = new ArrayList<>(walk);
        return walk.size();
    }

    int answers() {
        return explored == null ? NO : explored.answers();
    }
}
