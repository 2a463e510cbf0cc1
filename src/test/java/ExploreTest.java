import java.util.HashSet;
import java.util.Set;

/** Promises 24 to 30: exploration. */
public final class ExploreTest {
    private static final Due DUE = new Due("ExploreTest");
    private static final int MIN = Integer.MIN_VALUE, MAX = Integer.MAX_VALUE;

    public static void main(String[] args) {
        promise24();
        promise24Full();
        promise24Spent();
        promise25();
        promise25Ends();
        promise26();
        promise26Alone();
        promise26Cycle();
        promise27And28();
        promise29();
        promise29Long();
        promise29Program();
        promise30();
        promise30Many();
        oneAfterTheOther();
        DUE.close();
    }

    /** A call that adds 1 and gives the sum back; it has three states. */
    private static FreeShelf adder() {
        return Shelf.with(1, Shelf.act(Shelf.ADD, 0, 1), Shelf.act(Shelf.RETURN, 5));
    }

    /** Three threads that count for themselves: too many states. */
    private static FreeShelf counters() {
        FreeShelf x = new FreeShelf();
        for (int t = 0; t < 3; t++) {
            Shelf.routine(x, t, Shelf.act(Shelf.ADD, t, 1), Shelf.act(Shelf.GO, 0));
            x.call(t, t, 0);
        }
        return x;
    }

    private static void promise24() {
        FreeShelf x = new FreeShelf();
        DUE.is("24: no calls", x.explore(), -2);
        x.act(0, 13, 0, 0, 0);
        x.call(3, 0, 0);
        DUE.is("24: start calls alone", x.explore(), -2);
        x.clear();
        x.call(1, 0, 0);
        DUE.is("24: two states", x.explore(), 2);
        x.clear();
        DUE.is("24: no calls", x.explore(), -2);
        DUE.is("24: the earlier one stays", x.explored(0), 2);
        x.call(1, 0, 0);
        x.call(3, 5, 0);
        DUE.is("24: a start call that fails", x.explore(), -11);
        DUE.is("24: not even an earlier one", x.explored(0), -2);
        DUE.is("24: not even an earlier one", x.first(6), -2);
        DUE.is("24: not even an earlier one", x.walk(0, 0), -2);
        DUE.is("24: not even an earlier one", x.next(0, 0), -2);
        DUE.is("24: not even an earlier one", x.go(0), -2);
        DUE.is("24: not even an earlier one", x.answers(), -2);
        DUE.is("24: no run", x.may(0), -2);
        FreeShelf y = adder();
        y.begin();
        y.step(0);
        DUE.is("24: three states", y.explore(), 3);
        DUE.is("24: the run stays", y.word(0, 1), 1);
        DUE.is("24: the run goes on", y.step(0), 2);
    }

    private static void promise24Full() {
        FreeShelf x = adder();
        for (int i = 0; i < 6; i++) DUE.is("24: explore", x.explore(), 3);
        x.call(3, 5, 0);
        for (int i = 0; i < 6; i++) DUE.is("24: error", x.explore(), -11);
        DUE.is("24: FULL before the error", x.explore(), -3);
        x.clear();
        DUE.is("24: NO before FULL", x.explore(), -2);
        x.call(0, 0, 1);
        DUE.is("24: full", x.explore(), -3);
        FreeShelf y = adder();
        y.clear();
        for (int i = 0; i < 20; i++) DUE.is("24: not counted", y.explore(), -2);
        y.call(0, 0, 1);
        for (int i = 0; i < 12; i++) DUE.is("24: explore", y.explore(), 3);
        DUE.is("24: full", y.explore(), -3);
        DUE.is("24: the last one stays", y.explored(0), 3);
    }

    private static void promise24Spent() {
        FreeShelf x = counters();
        DUE.is("24: spent", x.explore(), -5);
        DUE.is("25: states", x.explored(0), 1500);
        DUE.is("25: no ends", x.explored(1), 0);
        DUE.is("25: incomplete", x.explored(7), 1);
        DUE.is("26: no end", x.first(6), -4);
        DUE.is("28: not kept", x.next(1499, 0), -4);
        DUE.is("28: no such state", x.next(1500, 0), -2);
        DUE.is("29: go", x.go(1499), x.word(0, 1) + x.word(1, 1) + x.word(2, 1));
        DUE.is("14: possible, but not kept", x.may(0), 1);
        int pairs = 0;
        for (int s = 0; s < 1500; s++) for (int c = 0; c < 6; c++) if (x.next(s, c) >= 0) pairs++;
        DUE.is("25: pairs", x.explored(4), pairs);
        // 100 states of thread 0 with 4 of thread 1, and 99 more, where thread 1 was done when thread 0 began.
        FreeShelf y = new FreeShelf();
        Shelf.routine(y, 0, Shelf.act(Shelf.ADD, 0, 1), Shelf.act(Shelf.GO, 0));
        Shelf.routine(y, 1, Shelf.act(Shelf.FENCE), Shelf.act(Shelf.FENCE), Shelf.act(Shelf.RETURN, 0));
        y.call(0, 0, 0);
        y.call(1, 1, 0);
        DUE.is("24: complete", y.explore(), 499);
        DUE.is("25: complete", y.explored(7), 0);
    }

    private static void promise25() {
        FreeShelf x = adder();
        DUE.is("25: no exploration", x.explored(0), -2);
        DUE.is("25: BAD before NO", x.explored(-1), -1);
        DUE.is("25: BAD before NO", x.explored(8), -1);
        x.explore();
        int[] due = {3, 1, 0, 0, 2, 0, 0, 0};
        for (int what = 0; what < 8; what++) DUE.is("25: what " + what, x.explored(what), due[what]);
        for (int bad : new int[] {MIN, -1, 8, MAX}) DUE.is("25: what " + bad, x.explored(bad), -1);
        x.clear();
        DUE.is("25: it stays", x.explored(0), 3);
        // Two threads, one of which meets an error at once, either before or after the call of the other is over.
        FreeShelf y = adder();
        y.call(1, 5, 0);
        y.explore();
        int[] failing = {7, 2, 2, 0, 7, 4, 0, 0};
        for (int what = 0; what < 8; what++) DUE.is("25: error, what " + what, y.explored(what), failing[what]);
        // Nodes that wait: two at the most.
        FreeShelf z = Shelf.with(0, Shelf.act(Shelf.TAKE, 1), Shelf.act(Shelf.TAKE, 2), Shelf.act(Shelf.LET, 1),
            Shelf.act(Shelf.LET, 2), Shelf.act(Shelf.RETURN, 0));
        z.explore();
        DUE.is("25: waiting", z.explored(6), 2);
        DUE.is("26: waiting", z.first(5), 4);
        z.manner(1);
        z.explore();
        DUE.is("25: not waiting", z.explored(6), 0);
        DUE.is("26: none waits from the first on", z.first(5), 0);
    }

    private static void promise25Ends() {
        // Reading and writing apart loses an addition in some orders.
        FreeShelf x = new FreeShelf();
        Shelf.routine(x, 0, Shelf.act(Shelf.READ, 1, 0), Shelf.act(Shelf.PLUS, 1, 1), Shelf.act(Shelf.WRITE, 0, 1),
            Shelf.act(Shelf.RETURN, 1));
        Shelf.routine(x, 1, Shelf.act(Shelf.SET, 1, 0), Shelf.act(Shelf.WRITE, 0, 1), Shelf.act(Shelf.RETURN, 1));
        x.moment(0, 2, true);
        x.means(0, 1);
        x.call(3, 1, 0);
        x.call(0, 0, 1);
        x.call(1, 0, 1);
        x.explore();
        int ends = x.explored(1);
        DUE.is("25: without a model all agree", x.explored(2), 0);
        DUE.is("25: without a model", x.explored(3), 0);
        DUE.is("26: without a model", x.first(0), -4);
        DUE.is("26: without a model", x.first(1), -4);
        DUE.is("30: 1 and 1, 1 and 2, 2 and 1", x.answers(), 3);
        x.model(3);
        x.explore();
        DUE.is("25: as many ends", x.explored(1), ends);
        DUE.is("25: some do not agree", x.explored(2) > 0 && x.explored(2) < ends ? 1 : 0, 1);
        DUE.is("25: they do not keep the moments either", x.explored(3), x.explored(2));
        DUE.is("26: the first of them", x.first(0), x.first(1));
        DUE.is("30: in ends that agree", x.answers(), 2);
        x.go(x.first(0));
        DUE.is("22: it does not", x.agrees(), 0);
        DUE.is("22: both answers are 1", x.answer(0, 0) + x.answer(1, 0), 2);
        x.moment(0, 2, false);
        x.explore();
        DUE.is("25: without moments none keeps them", x.explored(3), x.explored(1));
        DUE.is("25: but some agree", x.explored(2) < x.explored(1) ? 1 : 0, 1);
        DUE.is("26: the first end", x.first(1), x.first(6));
    }

    private static void promise26() {
        FreeShelf x = adder();
        DUE.is("26: no exploration", x.first(0), -2);
        DUE.is("26: BAD before NO", x.first(-1), -1);
        x.call(1, 5, 0);
        x.explore();
        // The walks: none, 0, 1, 00, 01, 001, 010.
        int[] due = {5, -4, 2, -4, -4, 0, 5, 6, -4};
        for (int what = 0; what < 9; what++) DUE.is("26: what " + what, x.first(what), due[what]);
        x.model(1);
        x.explore();
        DUE.is("26: with a model", x.first(1), 5);
        DUE.is("26: no 100th end", x.first(106), -4);
        DUE.is("26: no such end", x.first(MAX), -4);
        DUE.is("26: negative", x.first(-1), -1);
        DUE.is("26: negative", x.first(MIN), -1);
        // Two ends: which thread adds first.
        FreeShelf y = adder();
        y.call(1, 0, 1);
        y.explore();
        int ends = y.explored(1);
        int before = -1;
        for (int n = 0; n < ends; n++) {
            int end = y.first(6 + n);
            DUE.is("26: end " + n + " comes later", end > before ? 1 : 0, 1);
            for (int c = 0; c < 6; c++) DUE.is("26: nothing follows", y.next(end, c), -4);
            before = end;
        }
        DUE.is("26: no more ends", y.first(6 + ends), -4);
    }

    private static void promise26Alone() {
        FreeShelf x = new FreeShelf();
        Shelf.countDown(x, 0);
        x.call(0, 0, 60);
        x.explore();
        DUE.is("26: 60 steps are left after the first", x.first(3), -4);
        x.clear();
        x.call(0, 0, 61);
        x.explore();
        DUE.is("26: 61 steps are left after the first", x.first(3), 1);
        DUE.is("26: that is no cycle", x.first(4), -4);
        // Thread 1 waits for thread 0 to write.
        FreeShelf y = new FreeShelf();
        Shelf.routine(y, 0, Shelf.act(Shelf.WRITE, 0, 0), Shelf.act(Shelf.RETURN, 0));
        Shelf.routine(y, 1, Shelf.act(Shelf.BLANK, 2), Shelf.act(Shelf.READ, 1, 0), Shelf.act(Shelf.SAME, 1, 2, 1),
            Shelf.act(Shelf.RETURN, 1));
        y.call(0, 0, 3);
        y.call(1, 1, 0);
        y.explore();
        DUE.is("26: waits", y.first(3), 2);
        DUE.is("26: goes round", y.first(4), 2);
        DUE.is("28: to itself", y.next(2, 1), 2);
        // With a write that does not come by itself the thread that wrote it finishes, as return lets it come.
        FreeShelf z = Shelf.with(3, Shelf.act(Shelf.WRITE, 0, 0), Shelf.act(Shelf.RETURN, 0));
        z.late(true);
        z.explore();
        DUE.is("26: finishes", z.first(3), -4);
        // A thread that has met an error counts as one that can finish.
        FreeShelf w = Shelf.with(3, Shelf.act(Shelf.FENCE), Shelf.act(Shelf.LET, 0));
        w.explore();
        DUE.is("26: an error ends it", w.first(3), -4);
        DUE.is("26: error", w.first(2), 2);
        // Threads whose writes must come by a choice of their own cannot go on without it.
        FreeShelf v = new FreeShelf();
        Shelf.routine(v, 0, Shelf.act(Shelf.WRITE, 0, 0), Shelf.act(Shelf.SET, 1, 5), Shelf.act(Shelf.READ, 2, 1),
            Shelf.act(Shelf.SAME, 2, 1, 5), Shelf.act(Shelf.GO, 2), Shelf.act(Shelf.RETURN, 0));
        Shelf.routine(v, 1, Shelf.act(Shelf.WRITE, 1, 0), Shelf.act(Shelf.RETURN, 0));
        v.call(0, 0, 1);
        v.call(2, 1, 5);
        v.explore();
        DUE.is("26: stuck until thread 2 has written", v.first(3), 1);
    }

    private static void promise26Cycle() {
        // A cycle of three states that begins later: 0 and 1 lead to it.
        FreeShelf x = Shelf.with(0, Shelf.act(Shelf.FENCE), Shelf.act(Shelf.FENCE), Shelf.act(Shelf.FENCE),
            Shelf.act(Shelf.FENCE), Shelf.act(Shelf.FENCE), Shelf.act(Shelf.GO, 2));
        DUE.is("24: states", x.explore(), 5);
        DUE.is("26: the lowest", x.first(4), 2);
        DUE.is("28: back", x.next(4, 0), 2);
        DUE.is("26: no end", x.first(6), -4);
        // No call ends in a cycle, so that calls one after the other are none.
        FreeShelf y = adder();
        y.call(0, 0, 1);
        y.call(0, 0, 1);
        y.explore();
        DUE.is("26: no cycle", y.first(4), -4);
        // A way round between two threads: each sets what the other resets.
        FreeShelf z = new FreeShelf();
        Shelf.routine(z, 0, Shelf.act(Shelf.WRITE, 0, 0), Shelf.act(Shelf.GO, 0));
        z.call(1, 0, 1);
        z.call(2, 0, 2);
        z.explore();
        DUE.is("26: thread 1 writes again", z.first(4), 1);
        DUE.is("26: nor can it finish", z.first(3), 1);
    }

    private static void promise27And28() {
        FreeShelf x = adder();
        x.call(2, 0, 1);
        DUE.is("27: no exploration", x.walk(0, 0), -2);
        DUE.is("27: BAD before NO", x.walk(0, -1), -1);
        DUE.is("28: no exploration", x.next(0, 0), -2);
        DUE.is("28: BAD before NO", x.next(0, 6), -1);
        int states = x.explore();
        DUE.is("27: the first has none", x.walk(0, 0), -4);
        DUE.is("28: thread 0", x.next(0, 0), 1);
        DUE.is("28: thread 1", x.next(0, 1), -4);
        DUE.is("28: thread 2", x.next(0, 2), 2);
        DUE.is("27: thread 2", x.walk(2, 0), 2);
        DUE.is("27: no more", x.walk(2, 1), -4);
        DUE.is("27: no more", x.walk(2, MAX), -4);
        for (int s = 0; s < states; s++) followWalk(x, s);
        for (int bad : new int[] {MIN, -1, states, MAX}) {
            DUE.is("27: state " + bad, x.walk(bad, 0), -2);
            DUE.is("28: state " + bad, x.next(bad, 0), -2);
            DUE.is("27: BAD first", x.walk(bad, -1), -1);
            DUE.is("28: BAD first", x.next(bad, -1), -1);
        }
        DUE.is("27: index MIN", x.walk(0, MIN), -1);
        for (int bad : new int[] {MIN, -1, 6, MAX}) DUE.is("28: choice " + bad, x.next(0, bad), -1);
    }

    private static void followWalk(FreeShelf x, int state) {
        int on = 0;
        int i = 0;
        while (x.walk(state, i) != -4) {
            on = x.next(on, x.walk(state, i));
            i++;
        }
        DUE.is("27: the walk leads there", on, state);
        DUE.is("29: its length", x.go(state), i);
    }

    private static void promise29() {
        FreeShelf x = adder();
        x.call(1, 0, 1);
        DUE.is("29: no exploration", x.go(0), -2);
        int states = x.explore();
        DUE.is("29: no state -1", x.go(-1), -2);
        DUE.is("29: no state", x.go(states), -2);
        DUE.is("29: MIN", x.go(MIN), -2);
        DUE.is("29: MAX", x.go(MAX), -2);
        DUE.is("29: still no run", x.may(0), -2);
        DUE.is("29: the first", x.go(0), 0);
        DUE.is("15: begins with 0", x.run(1), 1);
        DUE.is("15: begins with 0", x.thread(0, 1), 1);
        int end = x.first(6);
        DUE.is("29: an end", x.go(end), 4);
        DUE.is("22: it agrees", x.agrees(), 1);
        DUE.is("13: nothing possible", x.step(0), -2);
        DUE.is("29: after one choice", x.go(1), 1);
        DUE.is("13: the second", x.step(1), 2);
        DUE.is("29: after one choice", x.go(1), 1);
        DUE.is("15: thread 1 is next", x.run(1), 1);
        DUE.is("15: thread 1 is next", x.thread(1, 1), 1);
        DUE.is("29: kept states do not change", x.go(1), 1);
        DUE.is("29: kept states do not change", x.word(0, 1), 1);
    }

    private static void promise29Long() {
        FreeShelf x = Shelf.with(0, Shelf.act(Shelf.ADD, 0, 1), Shelf.act(Shelf.GO, 0));
        Shelf.routine(x, 1, Shelf.act(Shelf.WRITE, 0, 0), Shelf.act(Shelf.RETURN, 0));
        x.call(3, 1, -99);
        DUE.is("24: a long way", x.explore(), 199);
        DUE.is("26: at its end", x.first(4), 198);
        DUE.is("27: the last choice", x.walk(198, 197), 0);
        DUE.is("27: no more", x.walk(198, 198), -4);
        DUE.is("29: 99", x.go(99), 99);
        DUE.is("13: the hundredth", x.step(0), 100);
        DUE.is("13: no more", x.step(0), -3);
        DUE.is("29: 100", x.go(100), 100);
        DUE.is("29: 100", x.word(0, 1), 1);
        DUE.is("13: no more", x.step(0), -3);
        DUE.is("29: 101", x.go(101), -3);
        DUE.is("29: the run stays", x.word(0, 1), 1);
    }

    private static void promise29Program() {
        FreeShelf x = Shelf.with(1, Shelf.act(Shelf.WRITE, 0, 0), Shelf.act(Shelf.RETURN, 0));
        x.manner(2);
        x.late(true);
        x.model(4);
        x.means(0, 2);
        x.call(3, 0, 0);
        x.explore();
        x.tear(0, -1);
        x.manner(0);
        x.late(false);
        x.model(0);
        x.means(0, 0);
        x.clear();
        DUE.is("29: with the program of the exploration", x.go(0), 0);
        DUE.is("29: its start calls", x.word(0, 3), 1);
        DUE.is("29: its calls", x.step(0), 1);
        DUE.is("29: its memory", x.thread(0, 4), 1);
        DUE.is("29: its memory", x.step(3), 2);
        DUE.is("29: its manner", x.word(0, 3), 2);
        DUE.is("29: its routines", x.step(0), 3);
        DUE.is("29: its model", x.agrees(), 0);
        // After a start call that failed with a guard set, the guard must not last.
        FreeShelf y = Shelf.with(0, Shelf.act(Shelf.TAKE, 0), Shelf.act(Shelf.LET, 0), Shelf.act(Shelf.RETURN, 0));
        Shelf.routine(y, 1, Shelf.act(Shelf.TAKE, 0), Shelf.act(Shelf.GUARD, 0, 0), Shelf.act(Shelf.ENTER),
            Shelf.act(Shelf.LET, 1));
        y.manner(3);
        y.explore();
        y.call(3, 1, 0);
        DUE.is("12: it fails", y.begin(), -11);
        DUE.is("29: go", y.go(0), 0);
        DUE.is("15: run", y.run(2), 2);
        DUE.is("18: free at once", y.node(0), 0);
    }

    private static void promise30() {
        FreeShelf x = new FreeShelf();
        DUE.is("30: no exploration", x.answers(), -2);
        // Each gives the global back and writes its argument.
        Shelf.routine(x, 0, Shelf.act(Shelf.READ, 1, 0), Shelf.act(Shelf.WRITE, 0, 0), Shelf.act(Shelf.RETURN, 1));
        x.call(0, 0, 1);
        x.explore();
        DUE.is("30: one", x.answers(), 1);
        x.call(1, 0, 2);
        x.explore();
        DUE.is("30: - -, - 1, 2 -", x.answers(), 3);
        x.call(1, 5, 2);
        x.explore();
        DUE.is("30: none without errors", x.answers(), 0);
        x.clear();
        x.call(0, 0, 1);
        x.call(0, 0, 2);
        x.explore();
        DUE.is("30: in one order only", x.answers(), 1);
    }

    /** Two threads that add twice in a call, two calls each: many different results, counted here by a set of texts. */
    private static void promise30Many() {
        int most = 0;
        for (int n = 1; n <= 15; n++) {
            FreeShelf x = new FreeShelf();
            Shelf.routine(x, 0, Shelf.act(Shelf.ADD, 0, n), Shelf.act(Shelf.ADD, 0, 7), Shelf.act(Shelf.RETURN, 5));
            for (int i = 0; i < 4; i++) x.call(i / 2, 0, 0);
            x.explore();
            Set<String> results = new HashSet<>();
            for (int i = 0; i < x.explored(1); i++) {
                x.go(x.first(6 + i));
                results.add(x.answer(0, 0) + " " + x.answer(0, 1) + " " + x.answer(1, 0) + " " + x.answer(1, 1));
            }
            DUE.is("30: results with " + n, x.answers(), results.size());
            most = Math.max(most, results.size());
        }
        DUE.is("30: that were many", most > 30 ? 1 : 0, 1);
    }

    /** What an exploration has found does not last until the next one. */
    private static void oneAfterTheOther() {
        FreeShelf x = counters();
        DUE.is("24: spent", x.explore(), -5);
        DUE.is("26: cycles of the last states", x.first(4) > 0 || x.first(4) == -4 ? 1 : 0, 1);
        x.clear();
        Shelf.routine(x, 0, Shelf.act(Shelf.TAKE, 1), Shelf.act(Shelf.LET, 1), Shelf.act(Shelf.RETURN, 1));
        x.call(0, 0, 0);
        DUE.is("24: complete", x.explore(), 4);
        DUE.is("25: complete", x.explored(7), 0);
        DUE.is("25: one waits", x.explored(6), 1);
        DUE.is("26: no cycle", x.first(4), -4);
        DUE.is("26: none is stuck", x.first(3), -4);
        Shelf.routine(x, 0, Shelf.act(Shelf.FENCE), Shelf.act(Shelf.FENCE), Shelf.act(Shelf.FENCE), Shelf.act(Shelf.GO, 1));
        DUE.is("24: states", x.explore(), 3);
        DUE.is("25: none waits", x.explored(6), 0);
        DUE.is("26: a cycle of two", x.first(4), 1);
        DUE.is("26: the same again", x.first(4), 1);
        DUE.is("26: stuck", x.first(3), 1);
        DUE.is("26: the same again", x.first(3), 1);
        DUE.is("30: no result", x.answers(), 0);
        Shelf.routine(x, 0, Shelf.act(Shelf.FENCE), Shelf.act(Shelf.FENCE), Shelf.act(Shelf.FENCE), Shelf.act(Shelf.FENCE),
            Shelf.act(Shelf.GO, 2));
        DUE.is("24: states", x.explore(), 4);
        DUE.is("26: a later cycle", x.first(4), 2);
        DUE.is("26: stuck before it", x.first(3), 1);
        Shelf.routine(x, 0, Shelf.act(Shelf.FENCE), Shelf.act(Shelf.RETURN, 0));
        DUE.is("24: states", x.explore(), 3);
        DUE.is("26: no cycle", x.first(4), -4);
        DUE.is("26: none is stuck", x.first(3), -4);
        DUE.is("30: a result", x.answers(), 1);
    }
}
