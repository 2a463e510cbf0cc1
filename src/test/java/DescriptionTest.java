/** The description: values, words, operations, errors, manners, delayed writes, models and moments. */
public final class DescriptionTest {
    private static final Due DUE = new Due("DescriptionTest");
    private static final int READ = Shelf.READ, LOOK = Shelf.LOOK, WRITE = Shelf.WRITE, LAY = Shelf.LAY;
    private static final int SWAP = Shelf.SWAP, TURN = Shelf.TURN, ADD = Shelf.ADD, FENCE = Shelf.FENCE;
    private static final int TAKE = Shelf.TAKE, LET = Shelf.LET, GUARD = Shelf.GUARD, ENTER = Shelf.ENTER;
    private static final int LEAVE = Shelf.LEAVE, RETURN = Shelf.RETURN, SET = Shelf.SET, BLANK = Shelf.BLANK;
    private static final int COPY = Shelf.COPY, MARK = Shelf.MARK, GO = Shelf.GO, SAME = Shelf.SAME, PLUS = Shelf.PLUS;

    public static void main(String[] args) {
        range();
        marks();
        alike();
        counts();
        swaps();
        nodes();
        places();
        ownLimit();
        ownLimitAndOtherErrors();
        errors();
        errorsHaveNoEffect();
        missingRoutine();
        manners0To2();
        manner3();
        manner3Others();
        manner4();
        manner4Threads();
        delayed();
        delayedFull();
        delayedOperations();
        delayedErrors();
        starter();
        delayedInLoops();
        stack();
        queue();
        sumAndCell();
        order();
        moments();
        momentsOfSwaps();
        statesThatDiffer();
        DUE.close();
    }

    private static int[] act(int op, int... numbers) {
        return Shelf.act(op, numbers);
    }

    private static FreeShelf begun(int steps, int argument, int[]... rows) {
        return begunWith(0, false, steps, argument, rows);
    }

    private static FreeShelf begunWith(int manner, boolean late, int steps, int argument, int[]... rows) {
        FreeShelf x = Shelf.with(argument, rows);
        x.manner(manner);
        x.late(late);
        x.begin();
        Shelf.steps(x, steps);
        return x;
    }

    private static void value(String name, FreeShelf x, int l, int kind, int amount, int mark, int count) {
        DUE.is(name + ": kind", x.local(0, l, 0), kind);
        DUE.is(name + ": amount", x.local(0, l, 1), amount);
        DUE.is(name + ": mark", x.local(0, l, 2), mark);
        DUE.is(name + ": count", x.local(0, l, 3), count);
    }

    private static void range() {
        FreeShelf x = begun(6, 98, act(PLUS, 0, 1), act(FENCE), act(PLUS, 0, 1), act(ADD, 0, 99), act(ADD, 0, 99),
            act(ADD, 1, -99), act(ADD, 1, -1), act(SET, 1, -98), act(PLUS, 1, -99), act(FENCE));
        value("plus up to 99", x, 0, 1, 99, 0, 0);
        value("plus down to -99", x, 1, 1, -99, 0, 0);
        value("add tells the new number", x, 5, 1, -99, 0, 0);
        DUE.is("add up to 99", x.word(0, 1), 99);
        DUE.is("add down to -99", x.word(1, 1), -99);
    }

    private static void marks() {
        FreeShelf x = begun(3, 7, act(MARK, 0, 1), act(WRITE, 0, 0), act(READ, 1, 0), act(COPY, 2, 0), act(PLUS, 2, 0),
            act(MARK, 3, 1), act(COPY, 4, 0), act(MARK, 4, 0), act(ADD, 0, 1));
        value("mark", x, 0, 1, 7, 1, 0);
        value("read", x, 1, 1, 7, 1, 0);
        value("plus loses the mark", x, 2, 1, 7, 0, 0);
        value("nothing has no mark", x, 3, 0, 0, 0, 0);
        value("unmarked", x, 4, 1, 7, 0, 0);
        DUE.is("add loses the mark", x.word(0, 2), 0);
        DUE.is("add counts on", x.word(0, 1), 8);
    }

    /** Whether same finds two locals alike that are made by these own operations (of locals 1 and 2). */
    private static int found(int[]... rows) {
        int[][] all = new int[rows.length + 5][];
        all[0] = act(TAKE, 0);
        System.arraycopy(rows, 0, all, 1, rows.length);
        int n = rows.length + 1;
        all[n] = act(SAME, 1, 2, n + 3);
        all[n + 1] = act(SET, 3, 0);
        all[n + 2] = act(GO, n + 4);
        all[n + 3] = act(SET, 3, 1);
        return begun(1, 0, all).local(0, 3, 1);
    }

    private static void alike() {
        DUE.is("nothing", found(act(BLANK, 1), act(BLANK, 2)), 1);
        DUE.is("marked nothing", found(act(BLANK, 1), act(MARK, 1, 1)), 1);
        DUE.is("numbers", found(act(SET, 1, -3), act(SET, 2, -3)), 1);
        DUE.is("other numbers", found(act(SET, 1, -3), act(SET, 2, 3)), 0);
        DUE.is("marked number", found(act(SET, 1, 3), act(SET, 2, 3), act(MARK, 2, 1)), 0);
        DUE.is("both marked", found(act(SET, 1, 3), act(SET, 2, 3), act(MARK, 2, 1), act(MARK, 1, 1)), 1);
        DUE.is("0 and nothing", found(act(SET, 1, 0)), 0);
        DUE.is("0 and node 0", found(act(SET, 1, 0), act(COPY, 2, 0)), 0);
        DUE.is("nodes", found(act(COPY, 1, 0), act(COPY, 2, 0)), 1);
        DUE.is("marked node", found(act(COPY, 1, 0), act(COPY, 2, 0), act(MARK, 1, 1)), 0);
    }

    private static void counts() {
        int[][] rows = {act(WRITE, 0, 0), act(READ, 1, 0), act(COPY, 2, 1), act(MARK, 1, 1), act(ADD, 0, 1),
            act(WRITE, 0, 4), act(READ, 3, 0), act(MARK, 3, 1), act(PLUS, 2, 1), act(WRITE, 0, 0), act(READ, 4, 0)};
        FreeShelf x = begunWith(2, false, 2, 5, rows);
        value("read takes the count, mark lets it stay", x, 1, 1, 5, 1, 1);
        value("copy takes the count", x, 2, 1, 5, 0, 1);
        Shelf.steps(x, 3);
        value("nothing can have a count", x, 3, 0, 0, 0, 3);
        value("plus has none", x, 2, 1, 6, 0, 0);
        value("add has none", x, 5, 1, 6, 0, 0);
        Shelf.steps(x, 2);
        value("modulo 4", x, 4, 1, 5, 0, 0);
        for (int manner : new int[] {0, 1, 3, 4}) {
            DUE.is("no counts with manner " + manner, begunWith(manner, false, 2, 5, rows).local(0, 1, 3), 0);
        }
        FreeShelf y = begunWith(2, false, 5, 5, act(TAKE, 1), act(LAY, 1, 1, 0), act(LET, 1), act(TAKE, 1),
            act(LOOK, 2, 1, 1), act(SET, 3, 1));
        value("take empties, but the counts stay", y, 2, 0, 0, 0, 1);
        DUE.is("the word too", y.word(9, 3), 1);
        value("take has no count", y, 1, 2, 0, 0, 0);
    }

    private static void swaps() {
        FreeShelf x = begun(3, 5, act(BLANK, 1), act(SWAP, 2, 1, 0), act(SWAP, 2, 1, 1), act(SWAP, 2, 0, 5));
        DUE.is("the new value is taken before local 5 changes", x.word(2, 1), 0);
        DUE.is("it was a number", x.word(2, 0), 1);
        value("it went well", x, 5, 1, 1, 0, 0);
        FreeShelf y = begun(2, 5, act(WRITE, 0, 0), act(SWAP, 0, 1, 2), act(FENCE));
        value("it did not", y, 5, 1, 0, 0, 0);
        DUE.is("nothing changes", y.word(0, 1), 5);
        // A word that has come back to its value has another count then.
        int[][] back = {act(WRITE, 0, 0), act(READ, 1, 0), act(WRITE, 0, 2), act(WRITE, 0, 0), act(SWAP, 0, 1, 2)};
        DUE.is("without counts", begunWith(1, false, 5, 5, back).local(0, 5, 1), 1);
        DUE.is("with counts", begunWith(2, false, 5, 5, back).local(0, 5, 1), 0);
        DUE.is("the count of a swap", begunWith(2, false, 1, 5, act(SWAP, 0, 1, 0)).word(0, 3), 1);
        DUE.is("no count if it fails", begunWith(2, false, 1, 5, act(SWAP, 0, 0, 0)).word(0, 3), 0);
        FreeShelf z = begun(3, 5, act(TAKE, 1), act(MARK, 1, 1), act(LAY, 1, 0, 0), act(TURN, 1, 0, 1));
        value("turn", z, 5, 1, 1, 0, 0);
        DUE.is("field 0", z.word(8, 0), 2);
        DUE.is("with the mark", z.word(8, 2), 1);
        DUE.is("field 1", z.word(9, 0), 0);
        DUE.is("marked words are not alike", begun(2, 5, act(WRITE, 0, 0), act(MARK, 0, 1), act(SWAP, 0, 0, 0)).local(0, 5, 1), 0);
    }

    private static void nodes() {
        FreeShelf x = new FreeShelf();
        Shelf.routine(x, 0, act(TAKE, 1), act(WRITE, 0, 1), act(GO, 0));
        x.call(1, 0, 0);
        x.begin();
        for (int k = 0; k < 6; k++) {
            x.step(1);
            DUE.is("take " + k, x.local(1, 1, 1), k);
            x.step(1);
        }
        x.step(1);
        DUE.is("no node is free", x.local(1, 1, 0), 0);
        FreeShelf y = begunWith(1, false, 5, 9, act(TAKE, 1), act(TAKE, 2), act(LAY, 1, 0, 0), act(LET, 1), act(TAKE, 3));
        DUE.is("the lowest again", y.local(0, 3, 1), 0);
        DUE.is("emptied", y.word(8, 0), 0);
        FreeShelf z = begunWith(1, false, 4, 9, act(TAKE, 1), act(LAY, 1, 0, 0), act(LAY, 1, 1, 0), act(LET, 1));
        DUE.is("a free node keeps its fields", z.word(8, 1) + z.word(9, 1), 18);
        FreeShelf w = begun(4, 9, act(TAKE, 1), act(MARK, 1, 1), act(LAY, 1, 1, 0), act(LOOK, 2, 1, 1), act(LET, 1));
        value("a marked node is this node", w, 2, 1, 9, 0, 0);
        DUE.is("released by its marked name", w.node(0), 2);
    }

    private static void places() {
        FreeShelf x = begun(1, 1, act(SET, 1, 1), act(SAME, 0, 1, 4), act(FENCE), act(FENCE), act(READ, 2, 0),
            act(SET, 3, 4), act(GO, 40));
        DUE.is("stands after the own operations", x.thread(0, 2), 40);
        value("they are done", x, 3, 1, 4, 0, 0);
        DUE.is("no error yet", x.thread(0, 3), 0);
        DUE.is("possible", x.may(0), 1);
        Shelf.steps(x, 1);
        DUE.is("no act there", x.thread(0, 3), 3);
        DUE.is("it stays there", x.thread(0, 2), 40);
        DUE.is("not possible", x.may(0), 0);
        FreeShelf y = begun(1, 1, act(SET, 0, 5));
        DUE.is("no act after own operations", y.thread(0, 3), 3);
        DUE.is("its place", y.thread(0, 2), 1);
        value("they are done all the same", y, 0, 1, 5, 0, 0);
        FreeShelf z = begun(1, 1);
        DUE.is("no acts", z.thread(0, 3), 3);
        DUE.is("a call is begun", z.thread(0, 1), 1);
        FreeShelf w = Shelf.with(1, act(RETURN, 0));
        w.call(0, 0, 2);
        w.begin();
        w.step(0);
        DUE.is("return does nothing of the next call", w.thread(0, 1), 0);
        value("locals are nothing then", w, 0, 0, 0, 0, 0);
        w.step(0);
        DUE.is("the next call", w.answer(0, 1), 2);
        FreeShelf v = begun(1, 3, act(FENCE), act(SAME, 0, 0, 1));
        DUE.is("same that goes to itself is a circle", v.thread(0, 3), 6);
    }

    /** Routine 0 with so many own operations before a fence and so many behind it, which all add 1 to local 1. */
    private static FreeShelf ownActs(int before, int behind) {
        FreeShelf x = new FreeShelf();
        x.act(0, SET, 1, 1, 0);
        for (int i = 1; i < before; i++) x.act(0, PLUS, 1, 1, 0);
        x.act(0, FENCE, 0, 0, 0);
        for (int i = 0; i < behind; i++) x.act(0, PLUS, 1, 1, 0);
        x.call(0, 0, 0);
        return x;
    }

    private static void ownLimit() {
        FreeShelf x = Shelf.with(0, act(SET, 1, 0), act(SET, 2, 10), act(PLUS, 1, 1), act(SAME, 1, 2, 5), act(GO, 2),
            act(FENCE), act(RETURN, 1));
        x.begin();
        x.step(0);
        DUE.is("31 own operations", x.thread(0, 3), 6);
        DUE.is("30 were done", x.local(0, 1, 1), 10);
        DUE.is("it stands at the 31st", x.thread(0, 2), 3);
        Shelf.routine(x, 0, act(SET, 1, 1), act(SET, 2, 10), act(PLUS, 1, 1), act(SAME, 1, 2, 5), act(GO, 2),
            act(FENCE), act(RETURN, 1));
        x.begin();
        x.step(0);
        DUE.is("28 own operations", x.thread(0, 3), 0);
        FreeShelf y = ownActs(10, 19);
        y.begin();
        y.step(0);
        DUE.is("29 in one step", y.thread(0, 3), 0);
        DUE.is("29 in one step", y.local(0, 1, 1), 29);
        FreeShelf z = Shelf.with(0, act(SET, 1, 0), act(SET, 2, 9), act(PLUS, 1, 1), act(SAME, 1, 2, 5), act(GO, 2),
            act(ADD, 0, 1), act(COPY, 3, 1), act(COPY, 3, 1), act(COPY, 4, 1), act(FENCE));
        z.begin();
        z.step(0);
        DUE.is("28 before and 3 behind", z.thread(0, 3), 6);
        DUE.is("the memory operation is done", z.word(0, 1), 1);
        DUE.is("it stands at the 31st", z.thread(0, 2), 8);
        DUE.is("two were done", z.local(0, 3, 1), 9);
        DUE.is("the 31st was not", z.local(0, 4, 0), 0);
        z.tear(0, 8);
        z.begin();
        z.step(0);
        DUE.is("28 before and 2 behind", z.thread(0, 3), 0);
        Shelf.routine(z, 0, act(FENCE), act(SET, 2, 10), act(SET, 1, 0), act(PLUS, 1, 1), act(SAME, 1, 2, 6), act(GO, 3),
            act(FENCE));
        z.begin();
        z.step(0);
        DUE.is("31 behind", z.thread(0, 3), 6);
    }

    private static void ownLimitAndOtherErrors() {
        // Own operation 31 is a plus: 2 to 30 are ten times round.
        int[][] rows = {act(SET, 1, 0), act(SET, 2, 9), act(PLUS, 1, 1), act(SAME, 1, 2, 5), act(GO, 2), act(COPY, 3, 1),
            act(COPY, 3, 1), act(PLUS, 4, 1)};
        FreeShelf x = begun(1, 0, rows);
        DUE.is("error 1 comes before 6", x.thread(0, 3), 1);
        rows[7] = act(PLUS, 3, 1);
        DUE.is("error 6", begun(1, 0, rows).thread(0, 3), 6);
        int[][] withNode = {act(TAKE, 0), act(SET, 1, 0), act(SET, 2, 9), act(PLUS, 1, 1), act(SAME, 1, 2, 6), act(GO, 3),
            act(COPY, 3, 1), act(COPY, 3, 1), act(PLUS, 0, 1)};
        FreeShelf y = begun(1, 0, withNode);
        DUE.is("error 2 comes before 6", y.thread(0, 3), 2);
        DUE.is("at its place", y.thread(0, 2), 8);
        FreeShelf z = begun(1, 0, act(SET, 1, 0), act(SET, 2, 9), act(PLUS, 1, 1), act(SAME, 1, 2, 5), act(GO, 2),
            act(COPY, 3, 1), act(COPY, 3, 1));
        DUE.is("30 and then no act", z.thread(0, 3), 3);
    }

    private static void errors() {
        DUE.is("look at nothing", begun(1, 0, act(LOOK, 0, 1, 0)).thread(0, 3), 1);
        DUE.is("look at a number", begun(1, 0, act(LOOK, 1, 0, 0)).thread(0, 3), 2);
        DUE.is("lay on nothing", begun(1, 0, act(LAY, 1, 0, 0)).thread(0, 3), 1);
        DUE.is("lay on a number", begun(1, 0, act(LAY, 0, 0, 1)).thread(0, 3), 2);
        DUE.is("turn nothing", begun(1, 0, act(TURN, 1, 0, 0)).thread(0, 3), 1);
        DUE.is("turn a number", begun(1, 0, act(TURN, 0, 1, 1)).thread(0, 3), 2);
        DUE.is("let nothing", begun(1, 0, act(LET, 1)).thread(0, 3), 1);
        DUE.is("let a number", begun(1, 0, act(LET, 0)).thread(0, 3), 2);
        DUE.is("plus nothing", begun(1, 0, act(PLUS, 1, 0)).thread(0, 3), 1);
        DUE.is("plus a node", begun(1, 0, act(TAKE, 1), act(PLUS, 1, 0)).thread(0, 3), 2);
        DUE.is("add to a node", begun(3, 0, act(TAKE, 1), act(WRITE, 0, 1), act(ADD, 0, 0)).thread(0, 3), 2);
        DUE.is("guard a number", begun(1, 0, act(GUARD, 0, 0)).thread(0, 3), 0);
        DUE.is("guard nothing", begun(1, 0, act(GUARD, 0, 1)).thread(0, 3), 0);
        int[][] uses = {act(LOOK, 1, 1, 0), act(LAY, 1, 0, 0), act(TURN, 1, 0, 0), act(LET, 1), act(GUARD, 0, 1)};
        int[] freeErrors = {4, 4, 4, 5, 0};
        int[] releasedErrors = {0, 0, 0, 5, 0};
        for (int i = 0; i < uses.length; i++) {
            int[][] rows = {act(TAKE, 1), act(LET, 1), uses[i]};
            DUE.is("a free node " + i, begunWith(1, false, 3, 0, rows).thread(0, 3), freeErrors[i]);
            DUE.is("a released node " + i, begunWith(0, false, 3, 0, rows).thread(0, 3), releasedErrors[i]);
        }
    }

    private static void errorsHaveNoEffect() {
        FreeShelf x = Shelf.with(3, act(TAKE, 1), act(GUARD, 0, 1), act(ENTER), act(ADD, 0, 1), act(LOOK, 1, 0, 0));
        x.moment(0, 4, true);
        x.call(0, 0, 4);
        x.begin();
        Shelf.steps(x, 5);
        DUE.is("error", x.thread(0, 3), 2);
        DUE.is("for ever", x.may(0), 0);
        DUE.is("its place", x.thread(0, 2), 4);
        DUE.is("its call stays begun", x.thread(0, 1), 1);
        DUE.is("no call is over", x.thread(0, 0), 0);
        DUE.is("its guard stays", x.thread(0, 5), 0);
        DUE.is("it stays inside", x.thread(0, 7), 0);
        value("its locals stay", x, 1, 2, 0, 0, 0);
        DUE.is("the call has no answer", x.answer(0, 0), -4);
        DUE.is("an end", x.agrees(), 0);
    }

    private static void missingRoutine() {
        FreeShelf x = new FreeShelf();
        x.call(1, 3, 8);
        x.begin();
        DUE.is("possible", x.may(1), 1);
        DUE.is("a step", x.step(1), 1);
        DUE.is("missing", x.thread(1, 3), 1);
        DUE.is("the call is begun", x.thread(1, 1), 1);
        DUE.is("at act 0", x.thread(1, 2), 0);
        DUE.is("with its argument", x.local(1, 0, 1), 8);
        x.tear(3, 0);
        x.begin();
        x.step(1);
        DUE.is("not missing, but without acts", x.thread(1, 3), 3);
    }

    private static void manners0To2() {
        int[][] rows = {act(TAKE, 1), act(LET, 1), act(RETURN, 0)};
        int[] due = {2, 0, 0, 0, 2};
        for (int manner = 0; manner < 5; manner++) {
            DUE.is("manner " + manner, begunWith(manner, false, 2, 0, rows).node(0), due[manner]);
        }
        FreeShelf x = begunWith(0, false, 4, 0, act(ENTER), act(TAKE, 1), act(LET, 1), act(LEAVE), act(FENCE));
        DUE.is("the epoch stays", x.epoch(), 0);
        DUE.is("not inside any more", x.thread(0, 7), -4);
    }

    private static void manner3() {
        FreeShelf x = begunWith(3, false, 4, 0, act(TAKE, 1), act(GUARD, 0, 1), act(GUARD, 1, 1), act(LET, 1),
            act(GUARD, 0, 0), act(GUARD, 1, 2), act(FENCE));
        DUE.is("two guards", x.node(0), 2);
        Shelf.steps(x, 1);
        DUE.is("one guard", x.node(0), 2);
        DUE.is("no guard 0", x.thread(0, 5), -4);
        DUE.is("guard 1", x.thread(0, 6), 0);
        Shelf.steps(x, 1);
        DUE.is("free", x.node(0), 0);
        FreeShelf y = begunWith(3, false, 3, 0, act(TAKE, 1), act(GUARD, 0, 1), act(LET, 1), act(RETURN, 1));
        DUE.is("guarded", y.node(0), 2);
        Shelf.steps(y, 1);
        DUE.is("free at the end of the call", y.node(0), 0);
    }

    private static void manner3Others() {
        FreeShelf x = new FreeShelf();
        Shelf.routine(x, 0, act(TAKE, 1), act(WRITE, 0, 1), act(LET, 1), act(TAKE, 2), act(LET, 2), act(RETURN, 0));
        Shelf.routine(x, 1, act(READ, 1, 0), act(GUARD, 1, 1), act(LET, 0));
        x.call(0, 0, 0);
        x.call(2, 1, 0);
        x.manner(3);
        x.begin();
        Shelf.steps(x, 2);
        x.step(2);
        x.step(2);
        DUE.is("guarded by thread 2", x.thread(2, 6), 0);
        Shelf.steps(x, 1);
        DUE.is("it waits", x.node(0), 2);
        x.step(2);
        DUE.is("thread 2 fails", x.thread(2, 3), 2);
        Shelf.steps(x, 2);
        DUE.is("the other is free", x.node(1), 0);
        DUE.is("its guard stays", x.node(0), 2);
        Shelf.steps(x, 1);
        DUE.is("to the end", x.node(0), 2);
    }

    private static void manner4() {
        FreeShelf x = begunWith(4, false, 2, 0, act(TAKE, 1), act(LET, 1), act(TAKE, 2), act(LET, 2), act(ENTER),
            act(ENTER), act(LEAVE), act(RETURN, 0));
        DUE.is("let turns it", x.epoch(), 1);
        DUE.is("released in epoch 0", x.node(0), 2);
        Shelf.steps(x, 1);
        DUE.is("take does not turn it", x.epoch(), 1);
        DUE.is("node 1", x.local(0, 2, 1), 1);
        Shelf.steps(x, 1);
        DUE.is("let", x.epoch(), 2);
        DUE.is("0 + 2 <= 2", x.node(0), 0);
        DUE.is("1 + 2 > 2", x.node(1), 2);
        Shelf.steps(x, 1);
        DUE.is("enter", x.epoch(), 3);
        DUE.is("entered before it turned", x.thread(0, 7), 2);
        DUE.is("1 + 2 <= 3", x.node(1), 0);
        Shelf.steps(x, 1);
        DUE.is("no node waits", x.epoch(), 3);
        DUE.is("entered again", x.thread(0, 7), 3);
        FreeShelf y = begunWith(4, false, 4, 0, act(ENTER), act(TAKE, 1), act(LET, 1), act(FENCE), act(LEAVE), act(RETURN, 1));
        DUE.is("inside with 0", y.thread(0, 7), 0);
        DUE.is("one on", y.epoch(), 1);
        Shelf.steps(y, 1);
        DUE.is("leave", y.epoch(), 2);
        DUE.is("free", y.node(0), 0);
        FreeShelf z = begunWith(4, false, 3, 0, act(ENTER), act(TAKE, 1), act(LET, 1), act(RETURN, 1));
        Shelf.steps(z, 1);
        DUE.is("the end of a call", z.epoch(), 2);
        DUE.is("free", z.node(0), 0);
    }

    private static void manner4Threads() {
        FreeShelf x = new FreeShelf();
        Shelf.routine(x, 0, act(TAKE, 1), act(LET, 1), act(GO, 0));
        Shelf.routine(x, 1, act(ENTER), act(FENCE), act(LET, 2));
        x.call(0, 0, 0);
        x.call(1, 1, 0);
        x.manner(4);
        x.begin();
        x.step(1);
        DUE.is("no node waits", x.epoch(), 0);
        Shelf.steps(x, 2);
        DUE.is("all inside are in the present", x.epoch(), 1);
        Shelf.steps(x, 2);
        DUE.is("thread 1 is in the past", x.epoch(), 1);
        DUE.is("both wait", x.node(0) + x.node(1), 4);
        x.step(1);
        DUE.is("a fence turns nothing", x.epoch(), 1);
        x.step(1);
        DUE.is("an error", x.thread(1, 3), 1);
        Shelf.steps(x, 8);
        DUE.is("for ever", x.epoch(), 1);
        DUE.is("nothing becomes free", x.node(0), 2);
        DUE.is("six wait", x.node(5), 2);
    }

    private static void delayed() {
        int[][] rows = {act(WRITE, 0, 0), act(READ, 1, 0), act(PLUS, 0, 1), act(WRITE, 0, 0), act(READ, 2, 0),
            act(WRITE, 1, 0), act(READ, 3, 2), act(FENCE)};
        FreeShelf x = begunWith(2, true, 2, 5, rows);
        value("sees its own write", x, 1, 1, 5, 0, 0);
        DUE.is("it has not come", x.word(0, 0), 0);
        Shelf.steps(x, 2);
        value("sees its latest", x, 2, 1, 6, 0, 0);
        Shelf.steps(x, 2);
        value("other words", x, 3, 0, 0, 0, 0);
        DUE.is("three", x.thread(0, 4), 3);
        DUE.is("others do not see them", x.word(0, 0), 0);
        x.step(3);
        DUE.is("the oldest comes", x.word(0, 1), 5);
        DUE.is("with its count", x.word(0, 3), 1);
        DUE.is("the others wait", x.thread(0, 4), 2);
        Shelf.steps(x, 1);
        DUE.is("all have come", x.word(0, 1) + x.word(1, 1), 12);
        DUE.is("two writes", x.word(0, 3), 2);
        DUE.is("none waits", x.thread(0, 4), 0);
        FreeShelf y = begunWith(2, true, 3, 5, act(WRITE, 0, 0), act(FENCE), act(WRITE, 0, 2), act(READ, 1, 0));
        Shelf.steps(y, 1);
        value("a delayed nothing hides the word, not its count", y, 1, 0, 0, 0, 1);
        FreeShelf z = begunWith(0, true, 4, 5, act(TAKE, 1), act(MARK, 1, 1), act(LAY, 1, 0, 1), act(LAY, 1, 1, 0),
            act(LOOK, 2, 1, 0), act(LOOK, 3, 1, 1));
        value("look sees its own write", z, 2, 2, 0, 1, 0);
        DUE.is("delayed", z.thread(0, 4), 2);
        z.step(3);
        DUE.is("field 0", z.word(8, 2), 1);
        z.step(3);
        DUE.is("field 1", z.word(9, 1), 5);
    }

    private static void delayedFull() {
        FreeShelf x = begunWith(0, true, 4, 1, act(WRITE, 0, 0), act(WRITE, 1, 0), act(WRITE, 2, 0), act(WRITE, 3, 0),
            act(WRITE, 4, 0), act(TAKE, 1), act(LAY, 1, 0, 0), act(LAY, 2, 0, 0));
        DUE.is("four", x.thread(0, 4), 4);
        DUE.is("none has come", x.word(0, 0), 0);
        Shelf.steps(x, 1);
        DUE.is("still four", x.thread(0, 4), 4);
        DUE.is("the oldest has come", x.word(0, 1), 1);
        DUE.is("the next has not", x.word(1, 0), 0);
        Shelf.steps(x, 2);
        DUE.is("lay does the same", x.word(1, 1), 1);
        DUE.is("lay is delayed", x.word(8, 0), 0);
        Shelf.steps(x, 1);
        DUE.is("a lay that fails", x.thread(0, 3), 1);
        DUE.is("lets none come", x.word(2, 0), 0);
        DUE.is("four wait", x.thread(0, 4), 4);
        for (int i = 0; i < 4; i++) DUE.is("they come", x.step(3), 9 + i);
        DUE.is("in their order", x.word(8, 1), 1);
        DUE.is("no more", x.may(3), 0);
    }

    private static void delayedOperations() {
        int[][] wait = {act(READ, 1, 1), act(WRITE, 1, 0), act(TAKE, 1), act(GUARD, 0, 0), act(ENTER), act(LEAVE)};
        for (int[] row : wait) {
            FreeShelf x = begunWith(0, true, 2, 5, act(WRITE, 0, 0), row, act(FENCE));
            DUE.is("lets nothing come: " + row[0], x.word(0, 0), 0);
        }
        int[][] come = {act(SWAP, 1, 1, 1), act(ADD, 1, 0), act(FENCE), act(RETURN, 0)};
        for (int[] row : come) {
            FreeShelf x = begunWith(0, true, 2, 5, act(WRITE, 0, 0), row, act(FENCE));
            DUE.is("lets all come: " + row[0], x.word(0, 1), 5);
        }
        int[][] nodes = {act(TURN, 1, 1, 1), act(LET, 1)};
        for (int[] row : nodes) {
            FreeShelf x = begunWith(0, true, 3, 5, act(TAKE, 1), act(WRITE, 0, 0), row, act(FENCE));
            DUE.is("lets all come: " + row[0], x.word(0, 1), 5);
        }
        FreeShelf y = begunWith(0, true, 2, 5, act(WRITE, 0, 0), act(SWAP, 0, 0, 1), act(FENCE));
        DUE.is("a swap sees what has come", y.local(0, 5, 1), 1);
        FreeShelf z = begunWith(0, true, 2, 5, act(WRITE, 0, 0), act(ADD, 0, 2), act(FENCE));
        DUE.is("an add too", z.word(0, 1), 7);
        // The write comes to a node that is free by then, and taken again.
        FreeShelf w = begunWith(1, true, 2, 5, act(TAKE, 1), act(LAY, 1, 0, 0), act(LET, 1), act(TAKE, 2));
        Shelf.steps(w, 1);
        DUE.is("let lets it come", w.word(8, 1), 5);
        Shelf.steps(w, 1);
        DUE.is("take empties", w.word(8, 0), 0);
    }

    private static void delayedErrors() {
        int[][] rows = {act(TURN, 1, 0, 0), act(TURN, 0, 0, 0), act(LET, 0), act(LET, 1)};
        for (int[] row : rows) {
            FreeShelf x = begunWith(0, true, 2, 5, act(WRITE, 0, 0), row);
            DUE.is("an error", x.thread(0, 3) != 0 ? 1 : 0, 1);
            DUE.is("the writes have come: " + row[0], x.word(0, 1), 5);
            DUE.is("none waits", x.may(3), 0);
        }
        FreeShelf y = begunWith(0, true, 3, 5, act(TAKE, 1), act(WRITE, 0, 1), act(ADD, 0, 1));
        DUE.is("add finds the node that has come", y.thread(0, 3), 2);
        FreeShelf z = begunWith(0, true, 2, 5, act(WRITE, 0, 0), act(LOOK, 1, 1, 0));
        DUE.is("look lets none come", z.word(0, 0), 0);
        DUE.is("it waits", z.may(3), 1);
        FreeShelf w = begunWith(0, true, 1, 5, act(WRITE, 0, 0), act(PLUS, 1, 1));
        DUE.is("own operations neither", w.word(0, 0), 0);
        FreeShelf v = begunWith(0, true, 2, 5, act(WRITE, 0, 0));
        DUE.is("no act", v.thread(0, 3), 3);
        DUE.is("lets none come", v.word(0, 0), 0);
        // Another thread frees a node whose field is written later.
        FreeShelf u = new FreeShelf();
        Shelf.routine(u, 0, act(READ, 1, 0), act(LAY, 1, 0, 0), act(RETURN, 0));
        Shelf.routine(u, 1, act(READ, 1, 0), act(LET, 1), act(RETURN, 0));
        Shelf.routine(u, 2, act(TAKE, 1), act(WRITE, 0, 1), act(RETURN, 0));
        u.call(3, 2, 0);
        u.call(0, 0, 5);
        u.call(1, 1, 0);
        u.manner(1);
        u.late(true);
        u.begin();
        Shelf.steps(u, 2);
        u.step(1);
        u.step(1);
        DUE.is("free", u.node(0), 0);
        DUE.is("comes all the same", u.step(3), 5);
        DUE.is("there", u.word(8, 1), 5);
        DUE.is("no error", u.thread(0, 3), 0);
    }

    private static void starter() {
        // With ordered memory a start call sees the count of its own write, also after a run with late memory.
        FreeShelf x = new FreeShelf();
        Shelf.routine(x, 0, act(WRITE, 0, 0), act(READ, 1, 0), act(SET, 2, 7), act(SWAP, 0, 1, 2), act(RETURN, 5));
        x.call(3, 0, 5);
        x.call(0, 0, 5);
        x.manner(2);
        x.late(true);
        for (int i = 0; i < 2; i++) {
            x.begin();
            DUE.is("the start call's swap", x.word(0, 1), 7);
            DUE.is("two values", x.word(0, 3), 2);
            Shelf.steps(x, 2);
            DUE.is("late after that", x.local(0, 1, 3), 2);
            DUE.is("explored too", x.explore() > 0 ? x.go(0) : -9, 0);
            DUE.is("the start call's swap", x.word(0, 1), 7);
        }
        // Its guards and its epoch count.
        FreeShelf y = new FreeShelf();
        Shelf.routine(y, 0, act(TAKE, 1), act(GUARD, 1, 1), act(LET, 1), act(TAKE, 2), act(WRITE, 0, 2), act(RETURN, 0));
        y.call(3, 0, 0);
        y.call(0, 0, 0);
        y.manner(3);
        y.begin();
        DUE.is("node 0 was guarded", y.word(0, 1), 1);
        DUE.is("not any more", y.node(0), 0);
        FreeShelf z = new FreeShelf();
        Shelf.routine(z, 0, act(ENTER), act(TAKE, 1), act(LET, 1), act(TAKE, 2), act(LET, 2), act(RETURN, 0));
        z.call(3, 0, 0);
        z.call(0, 0, 0);
        z.manner(4);
        z.begin();
        DUE.is("by the first let and the end of the call", z.epoch(), 2);
        DUE.is("released in epoch 0", z.node(0), 0);
        DUE.is("released in epoch 1", z.node(1), 2);
    }

    private static void delayedInLoops() {
        FreeShelf x = begunWith(0, true, 1, 5, act(FENCE), act(SET, 1, 3), act(WRITE, 0, 1), act(GO, 0));
        Shelf.steps(x, 1);
        DUE.is("delayed", x.word(0, 0), 0);
        Shelf.steps(x, 1);
        DUE.is("the first act of routine 0 waits too", x.word(0, 1), 3);
    }

    /** Calls one after the other that put (argument from 1 on) or get (0), with answers by routine 1 or 2. */
    private static FreeShelf inTurn(int model, int[] answers, int... calls) {
        FreeShelf x = new FreeShelf();
        Shelf.routine(x, 0, act(RETURN, 0));
        Shelf.routine(x, 1, act(RETURN, 0));
        Shelf.routine(x, 2, act(RETURN, 1));
        x.means(0, 1);
        x.means(1, 2);
        x.means(2, 2);
        x.model(model);
        for (int i = 0; i < calls.length; i++) {
            int routine = calls[i] > 0 ? 0 : answers[i] == -100 ? 2 : 1;
            x.call(i / 3, routine, calls[i] > 0 ? calls[i] : Math.max(-99, answers[i]));
        }
        return x;
    }

    private static int agreesInTurn(int model, int[] answers, int... calls) {
        FreeShelf x = inTurn(model, answers, calls);
        x.begin();
        for (int i = 0; i < calls.length; i++) x.step(i / 3);
        return x.agrees();
    }

    private static void stack() {
        DUE.is("last in, first out", agreesInTurn(1, new int[] {0, 0, 8, 7, -100}, 7, 8, 0, 0, 0), 1);
        DUE.is("not first in, first out", agreesInTurn(1, new int[] {0, 0, 7, 8}, 7, 8, 0, 0), 0);
        DUE.is("nothing there", agreesInTurn(1, new int[] {-100, 0, 5}, 0, 5, 0), 1);
        DUE.is("something there", agreesInTurn(1, new int[] {0, -100}, 5, 0), 0);
        DUE.is("not twice", agreesInTurn(1, new int[] {0, 5, 5}, 5, 0, 0), 0);
        DUE.is("nothing is not 0", agreesInTurn(1, new int[] {0}, 0), 0);
    }

    private static void queue() {
        DUE.is("first in, first out", agreesInTurn(2, new int[] {0, 0, 7, 8, -100}, 7, 8, 0, 0, 0), 1);
        DUE.is("not last in, first out", agreesInTurn(2, new int[] {0, 0, 8, 7}, 7, 8, 0, 0), 0);
        DUE.is("nothing there", agreesInTurn(2, new int[] {-100, 0, 5}, 0, 5, 0), 1);
        DUE.is("in turns", agreesInTurn(2, new int[] {0, 0, 1, 0, 2, 3}, 1, 2, 0, 3, 0, 0), 1);
        DUE.is("in wrong turns", agreesInTurn(2, new int[] {0, 0, 1, 0, 3, 2}, 1, 2, 0, 3, 0, 0), 0);
        FreeShelf x = inTurn(2, new int[] {9, 8}, 0, 0);
        x.call(3, 0, 9);
        x.call(3, 0, 8);
        x.call(3, 0, 7);
        x.begin();
        x.run(9);
        DUE.is("start calls come first", x.agrees(), 1);
        FreeShelf y = inTurn(2, new int[] {8}, 0);
        y.call(3, 0, 9);
        y.call(3, 0, 8);
        y.call(3, 2, 0);
        y.begin();
        y.run(9);
        DUE.is("their answers are arbitrary, but they remove", y.agrees(), 1);
    }

    private static void sumAndCell() {
        DUE.is("a put answers the sum", agreesInTurn(3, new int[] {0, 3}, 3, 0), 1);
        DUE.is("it does not", agreesInTurn(3, new int[] {0, 0}, 3, 4), 0);
        DUE.is("0 at first", agreesInTurn(3, new int[] {0}, 0), 1);
        DUE.is("not the sum", agreesInTurn(3, new int[] {0, 4}, 3, 0), 0);
        DUE.is("a cell", agreesInTurn(4, new int[] {0, 0, 0, 4, 4}, 3, 2, 4, 0, 0), 1);
        DUE.is("an older content", agreesInTurn(4, new int[] {0, 0, 3}, 3, 4, 0), 0);
        DUE.is("0 at first", agreesInTurn(4, new int[] {0}, 0), 1);
        DUE.is("nothing is not 0", agreesInTurn(4, new int[] {-100}, 0), 0);
        // The sum itself is not kept in range: 99 and 99 is 198, which no answer can be.
        FreeShelf x = inTurn(3, new int[] {99}, 0);
        x.call(3, 0, 99);
        x.begin();
        x.run(9);
        DUE.is("99", x.agrees(), 1);
        x.call(3, 0, 99);
        x.begin();
        x.run(9);
        DUE.is("not 99", x.agrees(), 0);
        // A node answers 100.
        FreeShelf y = new FreeShelf();
        Shelf.routine(y, 0, act(TAKE, 1), act(RETURN, 1));
        y.means(0, 2);
        y.means(1, 1);
        Shelf.routine(y, 1, act(RETURN, 0));
        y.call(3, 1, 50);
        y.call(3, 1, 50);
        y.call(0, 0, 0);
        y.model(3);
        y.begin();
        y.run(9);
        DUE.is("100", y.agrees(), 1);
    }

    /** Two puts and a get in three threads, by steps in a given order. */
    private static int agreesAfter(int answer, int... steps) {
        FreeShelf x = new FreeShelf();
        Shelf.routine(x, 0, act(FENCE), act(RETURN, 0));
        x.means(0, 1);
        Shelf.routine(x, 1, act(FENCE), act(RETURN, 0));
        x.means(1, 2);
        x.call(0, 0, 1);
        x.call(1, 0, 2);
        x.call(2, 1, answer);
        x.model(2);
        x.begin();
        for (int choice : steps) x.step(choice);
        return x.agrees();
    }

    private static void order() {
        DUE.is("1 first", agreesAfter(1, 0, 0, 1, 1, 2, 2), 1);
        DUE.is("2 came later", agreesAfter(2, 0, 0, 1, 1, 2, 2), 0);
        DUE.is("at the same time", agreesAfter(2, 0, 1, 0, 1, 2, 2), 1);
        DUE.is("at the same time", agreesAfter(1, 0, 1, 0, 1, 2, 2), 1);
        DUE.is("the get overlaps put 1", agreesAfter(2, 0, 1, 1, 2, 0, 2), 1);
        DUE.is("the get is over before put 1 begins", agreesAfter(1, 1, 1, 2, 2, 0, 0), 0);
        DUE.is("the get overlaps both", agreesAfter(1, 2, 1, 1, 0, 0, 2), 0);
        DUE.is("the get overlaps both", agreesAfter(2, 2, 1, 1, 0, 0, 2), 1);
        DUE.is("put 2 was not over when put 1 began", agreesAfter(1, 2, 1, 0, 1, 0, 2), 1);
        DUE.is("calls of one thread are in order", agreesInTurn(2, new int[] {0, 0, 2}, 1, 2, 0), 0);
        // A call without meaning may have any answer, but keeps its place in time.
        FreeShelf x = inTurn(1, new int[] {0, 5}, 5, 0);
        Shelf.routine(x, 3, act(RETURN, 1));
        x.call(1, 3, 1);
        x.call(2, 3, 1);
        x.explore();
        DUE.is("no meaning", x.explored(2), 0);
    }

    private static FreeShelf reader(boolean first, boolean second) {
        // A put of a sum that is read twice: two moments at the most.
        FreeShelf x = new FreeShelf();
        Shelf.routine(x, 0, act(ADD, 0, 1), act(FENCE), act(READ, 1, 0), act(RETURN, 5));
        x.means(0, 1);
        x.moment(0, 0, first);
        x.moment(0, 2, second);
        x.call(0, 0, 1);
        x.call(1, 0, 1);
        x.model(3);
        return x;
    }

    private static int keepsAfter(FreeShelf x, int... steps) {
        x.begin();
        for (int choice : steps) x.step(choice);
        return x.keeps();
    }

    private static void moments() {
        DUE.is("at the add", keepsAfter(reader(true, false), 0, 1, 1, 1, 1, 0, 0, 0), 1);
        DUE.is("the last one counts", keepsAfter(reader(true, true), 0, 1, 1, 1, 1, 0, 0, 0), 0);
        DUE.is("in the other order", keepsAfter(reader(true, true), 0, 1, 0, 0, 1, 1, 0, 1), 1);
        DUE.is("no moment", keepsAfter(reader(false, false), 0, 0, 0, 0, 1, 1, 1, 1), 0);
        DUE.is("the second moment alone", keepsAfter(reader(false, true), 0, 1, 1, 1, 1, 0, 0, 0), 0);
        DUE.is("without a model", noModel(reader(true, true)), -2);
        // Late: the write counts when it is done, not when it comes.
        FreeShelf x = new FreeShelf();
        Shelf.routine(x, 0, act(WRITE, 0, 0), act(FENCE), act(RETURN, 0));
        Shelf.routine(x, 1, act(READ, 1, 0), act(FENCE), act(RETURN, 1));
        x.means(0, 1);
        x.means(1, 2);
        x.moment(0, 0, true);
        x.moment(1, 0, true);
        x.call(0, 0, 0);
        x.call(1, 1, 0);
        x.model(4);
        x.late(true);
        DUE.is("read before the write comes", keepsAfter(x, 0, 1, 3, 0, 0, 1, 1), 0);
        DUE.is("read after it", keepsAfter(x, 0, 3, 1, 0, 0, 1, 1), 1);
        // Every call needs a moment, also one that means nothing.
        FreeShelf y = reader(true, false);
        Shelf.routine(y, 1, act(ADD, 1, 1), act(RETURN, 5));
        y.call(2, 1, 0);
        DUE.is("a call without a moment", keepsAfter(y, 0, 0, 0, 0, 1, 1, 1, 1, 2, 2), 0);
        y.moment(1, 0, true);
        DUE.is("with one", keepsAfter(y, 0, 0, 0, 0, 1, 1, 1, 1, 2, 2), 1);
        // Moments of start calls do not count, but their puts do.
        y.call(3, 0, 1);
        DUE.is("after a start call", keepsAfter(y, 0, 0, 0, 0, 1, 1, 1, 1, 2, 2), 1);
    }

    private static int noModel(FreeShelf x) {
        x.model(0);
        return keepsAfter(x, 0, 0, 0, 0, 1, 1, 1, 1);
    }

    private static void momentsOfSwaps() {
        // A put of a cell that swaps until it goes well (first from nothing, then again from its own value).
        FreeShelf x = new FreeShelf();
        Shelf.routine(x, 0, act(BLANK, 1), act(SWAP, 0, 1, 0), act(RETURN, 5));
        x.means(0, 1);
        x.moment(0, 1, true);
        x.call(0, 0, 3);
        x.call(1, 0, 3);
        x.model(4);
        DUE.is("the second swap fails", keepsAfter(x, 0, 0, 1, 1), 0);
        Shelf.routine(x, 0, act(READ, 1, 0), act(SWAP, 0, 1, 0), act(RETURN, 5));
        x.moment(0, 1, true);
        DUE.is("the same value again counts", keepsAfter(x, 0, 0, 0, 1, 1, 1), 1);
        FreeShelf y = new FreeShelf();
        Shelf.routine(y, 0, act(TAKE, 1), act(TURN, 1, 2, 0), act(TURN, 1, 2, 0), act(RETURN, 5));
        y.means(0, 1);
        y.moment(0, 2, true);
        y.call(0, 0, 3);
        y.model(4);
        DUE.is("the second turn fails", keepsAfter(y, 0, 0, 0, 0), 0);
        y.moment(0, 1, true);
        DUE.is("the first one was the last that counts", keepsAfter(y, 0, 0, 0, 0), 1);
    }

    private static void statesThatDiffer() {
        // Each thread is before, within or after its call: 9 states. Where one is within and the other after it,
        // the calls may have overlapped or not: 2 more. Where both are after it, either may have been first: 2 more.
        DUE.is("what was over when a call began", statesOf(act(SET, 1, 1)), 13);
        // Locals that are forgotten when the call is over: nothing more to tell apart.
        DUE.is("more own operations", statesOf(act(SET, 1, 1), act(PLUS, 1, 1)), 13);
        FreeShelf x = new FreeShelf();
        Shelf.routine(x, 0, act(READ, 1, 0), act(RETURN, 0));
        x.call(0, 0, 0);
        x.call(1, 0, 0);
        int without = x.explore();
        x.moment(0, 0, true);
        int with = x.explore();
        DUE.is("the order of the moments", with > without ? 1 : 0, 1);
        x.model(0);
        DUE.is("also without a model", x.explore(), with);
        // Released in different epochs.
        FreeShelf y = Shelf.with(0, act(TAKE, 0), act(TAKE, 1), act(LET, 0), act(RETURN, 1));
        y.manner(4);
        DUE.is("a chain", y.explore(), 5);
    }

    /** The states of two threads with a call each of these acts, a fence and a return. */
    private static int statesOf(int[]... rows) {
        FreeShelf x = new FreeShelf();
        Shelf.routine(x, 0, rows);
        x.act(0, FENCE, 0, 0, 0);
        x.act(0, RETURN, 0, 0, 0);
        x.call(0, 0, 0);
        x.call(1, 0, 0);
        return x.explore();
    }
}
