/** Promises 12 to 23: a run. */
public final class RunTest {
    private static final Due DUE = new Due("RunTest");
    private static final int MIN = Integer.MIN_VALUE, MAX = Integer.MAX_VALUE;

    public static void main(String[] args) {
        promise12();
        promise12Errors();
        promise12Length();
        promise13();
        promise13Full();
        promise14();
        promise15();
        promise15Cycle();
        promise16And17();
        promise18And21();
        promise19();
        promise20();
        promise22();
        promise23();
        DUE.close();
    }

    private static void promise12() {
        FreeShelf x = new FreeShelf();
        Shelf.routine(x, 0, Shelf.act(Shelf.ADD, 0, 3), Shelf.act(Shelf.WRITE, 1, 0), Shelf.act(Shelf.RETURN, 5));
        DUE.is("12: no calls", x.begin(), -2);
        x.call(3, 0, 8);
        DUE.is("12: start calls alone", x.begin(), -2);
        x.call(3, 0, 7);
        x.call(1, 0, 6);
        x.late(true);
        DUE.is("12: begins", x.begin(), 1);
        DUE.is("12: both start calls are done", x.word(0, 1), 6);
        DUE.is("12: in their order, with ordered memory", x.word(1, 1), 7);
        DUE.is("12: no call is over", x.thread(1, 0), 0);
        DUE.is("12: no call is begun", x.thread(1, 1), 0);
        x.step(1);
        DUE.is("12: step", x.word(0, 1), 9);
        x.act(0, 13, 0, 0, 0);
        x.tear(0, 1);
        DUE.is("12: the run has its own program", x.step(1), 2);
        DUE.is("12: the run has its own program", x.thread(1, 4), 1);
        x.clear();
        DUE.is("12: no calls", x.begin(), -2);
        DUE.is("12: the run stays", x.word(0, 1), 9);
        DUE.is("12: the run stays", x.step(1), 3);
        DUE.is("12: answer", x.answer(1, 0), 9);
    }

    private static void startError(int error, int[]... rows) {
        FreeShelf x = new FreeShelf();
        x.manner(1);
        x.act(1, 13, 0, 0, 0);
        x.call(0, 1, 4);
        DUE.is("12: a run", x.begin(), 1);
        Shelf.routine(x, 0, rows);
        x.call(3, 0, 1);
        DUE.is("12: error " + error, x.begin(), -10 - error);
        DUE.is("12: no run after error " + error, x.may(0), -2);
        DUE.is("12: no word", x.word(0, 0), -2000);
        DUE.is("12: no exploration with error " + error, x.explore(), -10 - error);
        x.clear();
        x.call(0, 1, 4);
        DUE.is("12: a run again", x.begin(), 1);
        DUE.is("12: a run again", x.step(0), 1);
    }

    private static void promise12Errors() {
        startError(1, Shelf.act(Shelf.PLUS, 1, 1));
        startError(1, Shelf.act(Shelf.LET, 1));
        startError(2, Shelf.act(Shelf.LET, 0));
        startError(3);
        startError(3, Shelf.act(Shelf.FENCE));
        startError(4, Shelf.act(Shelf.TAKE, 1), Shelf.act(Shelf.LET, 1), Shelf.act(Shelf.LOOK, 1, 1, 0));
        startError(5, Shelf.act(Shelf.TAKE, 1), Shelf.act(Shelf.LET, 1), Shelf.act(Shelf.LET, 1));
        startError(6, Shelf.act(Shelf.GO, 0));
        startError(6, Shelf.act(Shelf.FENCE), Shelf.act(Shelf.GO, 0));
    }

    private static void promise12Length() {
        FreeShelf x = new FreeShelf();
        Shelf.countDown(x, 0);
        x.call(0, 0, 5);
        x.call(3, 0, 59);
        DUE.is("12: 60 steps", x.begin(), 1);
        x.call(3, 0, 59);
        DUE.is("12: 60 steps each", x.begin(), 1);
        x.call(3, 0, 60);
        DUE.is("12: 61 steps", x.begin(), -16);
    }

    private static void promise13() {
        FreeShelf x = Shelf.with(3, Shelf.act(Shelf.WRITE, 0, 0), Shelf.act(Shelf.RETURN, 0));
        DUE.is("13: BAD before NO", x.step(-1), -1);
        DUE.is("13: BAD before NO", x.step(6), -1);
        DUE.is("13: no run", x.step(0), -2);
        x.late(true);
        x.begin();
        DUE.is("13: no call", x.step(1), -2);
        DUE.is("13: no write", x.step(3), -2);
        DUE.is("13: one", x.step(0), 1);
        DUE.is("13: delayed", x.word(0, 0), 0);
        DUE.is("13: not this thread's", x.step(4), -2);
        DUE.is("13: two", x.step(3), 2);
        DUE.is("13: it has come", x.word(0, 1), 3);
        DUE.is("13: no more", x.step(3), -2);
        DUE.is("13: three", x.step(0), 3);
        DUE.is("13: over", x.step(0), -2);
        DUE.is("13: MIN", x.step(MIN), -1);
        DUE.is("13: MAX", x.step(MAX), -1);
        x.begin();
        DUE.is("13: counted anew", x.step(0), 1);
    }

    private static void promise13Full() {
        FreeShelf x = Shelf.with(0, Shelf.act(Shelf.ADD, 0, 1), Shelf.act(Shelf.GO, 0));
        x.begin();
        for (int i = 1; i <= 100; i++) DUE.is("13: step", x.step(0), i);
        DUE.is("13: full", x.step(0), -3);
        DUE.is("13: nothing done", x.word(0, 1), 99);
        DUE.is("13: NO before FULL", x.step(1), -2);
        DUE.is("13: BAD before FULL", x.step(7), -1);
        DUE.is("14: possible all the same", x.may(0), 1);
        DUE.is("15: no more", x.run(5), 0);
        x.begin();
        DUE.is("15: up to 100", x.run(60), 60);
        DUE.is("15: up to 100", x.run(60), 40);
        DUE.is("15: no more", x.run(60), 0);
    }

    private static void promise14() {
        FreeShelf x = Shelf.with(3, Shelf.act(Shelf.WRITE, 0, 0), Shelf.act(Shelf.PLUS, 1, 1));
        DUE.is("14: no run", x.may(0), -2);
        DUE.is("14: BAD before NO", x.may(6), -1);
        x.late(true);
        x.begin();
        int[] before = {1, 0, 0, 0, 0, 0};
        for (int c = 0; c < 6; c++) DUE.is("14: before", x.may(c), before[c]);
        x.step(0);
        DUE.is("14: error", x.thread(0, 3), 1);
        int[] after = {0, 0, 0, 1, 0, 0};
        for (int c = 0; c < 6; c++) DUE.is("14: after an error, the writes still come", x.may(c), after[c]);
        DUE.is("14: not asked for", x.agrees(), -2);
        x.step(3);
        for (int c = 0; c < 6; c++) DUE.is("14: at the end", x.may(c), 0);
        for (int c : new int[] {MIN, -1, 6, MAX}) DUE.is("14: choice " + c, x.may(c), -1);
        DUE.is("14: an end", x.agrees(), 0);
    }

    private static void promise15() {
        FreeShelf x = new FreeShelf();
        Shelf.routine(x, 0, Shelf.act(Shelf.WRITE, 0, 0), Shelf.act(Shelf.RETURN, 0));
        x.call(0, 0, 3);
        x.call(2, 0, 4);
        DUE.is("15: no run", x.run(1), -2);
        DUE.is("15: BAD before NO", x.run(0), -1);
        DUE.is("15: BAD before NO", x.run(101), -1);
        x.late(true);
        x.begin();
        DUE.is("15: MIN", x.run(MIN), -1);
        DUE.is("15: MAX", x.run(MAX), -1);
        DUE.is("15: thread 0", x.run(1), 1);
        DUE.is("15: thread 0", x.thread(0, 4), 1);
        DUE.is("15: thread 2", x.run(1), 1);
        DUE.is("15: thread 2", x.thread(2, 4), 1);
        DUE.is("15: the write of thread 0", x.run(1), 1);
        DUE.is("15: the write of thread 0", x.word(0, 1), 3);
        DUE.is("15: the write of thread 2", x.run(1), 1);
        DUE.is("15: the write of thread 2", x.word(0, 1), 4);
        DUE.is("15: thread 0 again", x.run(1), 1);
        DUE.is("15: thread 0 again", x.answer(0, 0), 3);
        DUE.is("15: to the end", x.run(100), 1);
        DUE.is("15: to the end", x.answer(2, 0), 4);
        DUE.is("15: at the end", x.run(1), 0);
    }

    private static void promise15Cycle() {
        FreeShelf x = new FreeShelf();
        Shelf.routine(x, 0, Shelf.act(Shelf.ADD, 0, 1), Shelf.act(Shelf.GO, 0));
        Shelf.routine(x, 1, Shelf.act(Shelf.READ, 1, 0), Shelf.act(Shelf.GO, 0));
        x.call(0, 0, 0);
        x.call(1, 1, 0);
        x.call(2, 0, 0);
        x.begin();
        DUE.is("15: after thread 1", x.step(1), 1);
        DUE.is("15: 2, 0, 1", x.run(3), 3);
        DUE.is("15: thread 1 saw both", x.local(1, 1, 1), 2);
        DUE.is("15: made", x.step(0), 5);
        DUE.is("15: thread 1 next", x.run(1), 1);
        DUE.is("15: thread 1 next", x.local(1, 1, 1), 3);
        x.begin();
        DUE.is("15: a new run begins with 0", x.run(2), 2);
        DUE.is("15: a new run begins with 0", x.local(1, 1, 1), 1);
        FreeShelf y = Shelf.with(0, Shelf.act(Shelf.ADD, 0, 1), Shelf.act(Shelf.GO, 0));
        y.begin();
        DUE.is("15: the same again", y.run(7), 7);
        DUE.is("15: the same again", y.word(0, 1), 7);
    }

    private static void promise16And17() {
        FreeShelf x = Shelf.with(-42, Shelf.act(Shelf.TAKE, 1), Shelf.act(Shelf.TAKE, 2), Shelf.act(Shelf.MARK, 2, 1),
            Shelf.act(Shelf.MARK, 0, 1), Shelf.act(Shelf.WRITE, 7, 0), Shelf.act(Shelf.LAY, 1, 1, 2),
            Shelf.act(Shelf.LAY, 2, 0, 0), Shelf.act(Shelf.READ, 3, 7));
        DUE.is("16: no run", x.word(0, 0), -2000);
        DUE.is("17: no run", x.local(0, 0, 0), -2000);
        x.manner(2);
        x.begin();
        Shelf.steps(x, 6);
        int[][] due = new int[20][4];
        due[7] = new int[] {1, -42, 1, 1};
        due[9] = new int[] {2, 1, 1, 1};
        due[10] = new int[] {1, -42, 1, 1};
        for (int w = 0; w < 20; w++) for (int i = 0; i < 4; i++) DUE.is("16: word " + w, x.word(w, i), due[w][i]);
        int[][] locals = {{1, -42, 1, 0}, {2, 0, 0, 0}, {2, 1, 1, 0}, {1, -42, 1, 1}, {0, 0, 0, 0}, {0, 0, 0, 0}};
        for (int l = 0; l < 6; l++) for (int i = 0; i < 4; i++) {
            DUE.is("17: local " + l, x.local(0, l, i), locals[l][i]);
            DUE.is("17: another thread's", x.local(1, l, i), 0);
        }
        for (int bad : new int[] {MIN, -1, 20, MAX}) DUE.is("16: word " + bad, x.word(bad, 0), -1000);
        for (int bad : new int[] {MIN, -1, 4, MAX}) {
            DUE.is("16: what " + bad, x.word(0, bad), -1000);
            DUE.is("17: what " + bad, x.local(0, 0, bad), -1000);
        }
        for (int bad : new int[] {MIN, -1, 6, MAX}) DUE.is("17: local " + bad, x.local(0, bad, 0), -1000);
        for (int bad : new int[] {MIN, -1, 3, MAX}) DUE.is("17: thread " + bad, x.local(bad, 0, 0), -1000);
        FreeShelf fresh = new FreeShelf();
        DUE.is("16: -1000 before -2000", fresh.word(-1, 0), -1000);
        DUE.is("17: -1000 before -2000", fresh.local(0, 6, 0), -1000);
    }

    private static void promise18And21() {
        FreeShelf x = Shelf.with(0, Shelf.act(Shelf.TAKE, 1), Shelf.act(Shelf.TAKE, 2), Shelf.act(Shelf.LET, 1),
            Shelf.act(Shelf.FENCE));
        DUE.is("18: no run", x.node(0), -2);
        DUE.is("18: BAD before NO", x.node(6), -1);
        DUE.is("21: no run", x.epoch(), -2);
        x.manner(4);
        x.begin();
        DUE.is("18: free", x.node(0), 0);
        DUE.is("21: at first", x.epoch(), 0);
        Shelf.steps(x, 3);
        DUE.is("18: released", x.node(0), 2);
        DUE.is("18: taken", x.node(1), 1);
        DUE.is("18: free", x.node(2), 0);
        DUE.is("18: the last", x.node(5), 0);
        DUE.is("21: one later", x.epoch(), 1);
        for (int k : new int[] {MIN, -1, 6, MAX}) DUE.is("18: node " + k, x.node(k), -1);
    }

    private static void promise19() {
        FreeShelf x = Shelf.with(0, Shelf.act(Shelf.TAKE, 1), Shelf.act(Shelf.GUARD, 1, 1), Shelf.act(Shelf.ENTER),
            Shelf.act(Shelf.WRITE, 0, 1), Shelf.act(Shelf.WRITE, 1, 1), Shelf.act(Shelf.SET, 2, 1),
            Shelf.act(Shelf.LEAVE), Shelf.act(Shelf.RETURN, 2));
        x.call(0, 0, 0);
        DUE.is("19: no run", x.thread(0, 0), -2);
        DUE.is("19: BAD before NO", x.thread(3, 0), -1);
        DUE.is("19: BAD before NO", x.thread(0, 8), -1);
        x.late(true);
        x.begin();
        told(x, 0, 0, 0, 0, 0, 0, -4, -4, -4);
        Shelf.steps(x, 1);
        told(x, 0, 0, 1, 1, 0, 0, -4, -4, -4);
        Shelf.steps(x, 2);
        told(x, 0, 0, 1, 3, 0, 0, -4, 0, 0);
        Shelf.steps(x, 2);
        told(x, 0, 0, 1, 6, 0, 2, -4, 0, 0);
        Shelf.steps(x, 1);
        told(x, 0, 0, 1, 7, 0, 2, -4, 0, -4);
        Shelf.steps(x, 1);
        told(x, 0, 1, 0, 0, 0, 0, -4, -4, -4);
        told(x, 1, 0, 0, 0, 0, 0, -4, -4, -4);
        for (int bad : new int[] {MIN, -1, 3, MAX}) DUE.is("19: thread " + bad, x.thread(bad, 0), -1);
        for (int bad : new int[] {MIN, -1, 8, MAX}) DUE.is("19: what " + bad, x.thread(0, bad), -1);
    }

    private static void told(FreeShelf x, int thread, int... due) {
        for (int what = 0; what < 8; what++) DUE.is("19: thread " + thread + " " + what, x.thread(thread, what), due[what]);
    }

    private static void promise20() {
        FreeShelf x = Shelf.with(-4, Shelf.act(Shelf.RETURN, 0));
        Shelf.routine(x, 1, Shelf.act(Shelf.RETURN, 1));
        Shelf.routine(x, 2, Shelf.act(Shelf.TAKE, 1), Shelf.act(Shelf.MARK, 1, 1), Shelf.act(Shelf.RETURN, 1));
        x.call(0, 1, 0);
        x.call(0, 2, 0);
        DUE.is("20: no run", x.answer(0, 0), -2000);
        DUE.is("20: -1000 before -2000", x.answer(0, 3), -1000);
        x.begin();
        DUE.is("20: not over", x.answer(0, 0), -4);
        x.step(0);
        DUE.is("20: a number", x.answer(0, 0), -4);
        DUE.is("20: over", x.thread(0, 0), 1);
        x.step(0);
        DUE.is("20: nothing", x.answer(0, 1), -100);
        x.step(0);
        DUE.is("20: begun", x.answer(0, 2), -4);
        x.step(0);
        DUE.is("20: a node", x.answer(0, 2), 100);
        DUE.is("20: no call", x.answer(1, 0), -4);
        DUE.is("20: no call", x.answer(2, 2), -4);
        for (int bad : new int[] {MIN, -1, 3, MAX}) {
            DUE.is("20: thread " + bad, x.answer(bad, 0), -1000);
            DUE.is("20: index " + bad, x.answer(0, bad), -1000);
        }
    }

    private static void promise22() {
        FreeShelf x = Shelf.with(1, Shelf.act(Shelf.WRITE, 0, 0), Shelf.act(Shelf.RETURN, 0));
        DUE.is("22: no run", x.agrees(), -2);
        x.begin();
        DUE.is("22: no end", x.agrees(), -2);
        x.step(0);
        DUE.is("22: no end", x.agrees(), -2);
        x.step(0);
        DUE.is("22: without a model", x.agrees(), 1);
        x.model(3);
        x.means(0, 1);
        DUE.is("22: the run has its own model", x.agrees(), 1);
        x.begin();
        x.run(9);
        DUE.is("22: the sum is 1", x.agrees(), 1);
        x.call(3, 0, 1);
        x.begin();
        x.run(9);
        DUE.is("22: the sum is 2", x.agrees(), 0);
        FreeShelf y = Shelf.with(1, Shelf.act(Shelf.LET, 0));
        y.begin();
        y.step(0);
        DUE.is("22: an error", y.agrees(), 0);
    }

    private static void promise23() {
        FreeShelf x = Shelf.with(1, Shelf.act(Shelf.ADD, 0, 1), Shelf.act(Shelf.RETURN, 5));
        x.moment(0, 0, true);
        DUE.is("23: no run", x.keeps(), -2);
        x.begin();
        x.run(9);
        DUE.is("23: no model", x.keeps(), -2);
        x.model(3);
        x.means(0, 1);
        DUE.is("23: the run has its own model", x.keeps(), -2);
        x.begin();
        DUE.is("23: no end", x.keeps(), -2);
        x.step(0);
        DUE.is("23: no end", x.keeps(), -2);
        x.step(0);
        DUE.is("23: kept", x.keeps(), 1);
        x.moment(0, 0, false);
        DUE.is("23: the run has its own moments", x.keeps(), 1);
        x.begin();
        x.run(9);
        DUE.is("23: no moment", x.keeps(), 0);
        DUE.is("23: agrees", x.agrees(), 1);
        Shelf.routine(x, 0, Shelf.act(Shelf.ADD, 0, 1), Shelf.act(Shelf.LET, 5));
        x.moment(0, 0, true);
        x.begin();
        x.run(9);
        DUE.is("23: an error", x.keeps(), 0);
    }
}
