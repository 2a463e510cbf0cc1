import java.io.IOException;

/** The sentences of the description that name a boundary case: releasing, delayed writes, programs, steps, states. */
public final class ProgramSentencesTest extends Sentences {
    public static void main(String[] args) throws IOException {
        releasing();
        delayedWrites();
        programs();
        steps();
        states();
        close("ProgramSentencesTest", args);
    }

    private static void releasing() {
        sentence("All nodes are free at first.", ProgramSentencesTest::freeAtFirst);
        sentence("0: it never becomes free.", ProgramSentencesTest::neverFree);
        sentence("1: it is free at once.", () -> freeAtOnce(1));
        sentence("2: it is free at once, and words have counts.", () -> freeAtOnce(2));
        sentence("3: it becomes free as soon as no thread has it as a guard.", ProgramSentencesTest::noGuard);
        sentence("This is checked after each let and guard, and at the end of each call.",
            ProgramSentencesTest::whenGuardsAreChecked);
        sentence("4: there is an epoch, 0 at first.", ProgramSentencesTest::epochAtFirst);
        sentence("After each enter, leave and let, and at the end of each call, the epoch increases by 1, if some node is"
            + " released and not free yet, and each thread that is inside entered in the present epoch",
            ProgramSentencesTest::whenTheEpochTurns);
        sentence("after that all released nodes become free whose release was in an epoch e with e + 2 <= the epoch.",
            ProgramSentencesTest::twoEpochs);
        sentence("Enter and leave make a thread inside, or not inside, with all manners, but the epoch changes with"
            + " manner 4 only.", ProgramSentencesTest::epochWithManner4);
    }

    private static void delayedWrites() {
        sentence("If it is late, each thread has a buffer with at most 4 delayed writes.",
            ProgramSentencesTest::atMost4);
        sentence("if it is full, its oldest write comes first, that is, it takes effect on its word and leaves the"
            + " buffer.", ProgramSentencesTest::fullBuffer);
        sentence("Read and look give the latest value that the own buffer has for the word, if there is one, otherwise"
            + " that of the word (the count is that of the word in any case).", ProgramSentencesTest::latestValue);
        sentence("Swap, turn, add, fence, let and return first let all writes of the own buffer come, the oldest first",
            ProgramSentencesTest::letWritesCome);
        sentence("also if the act meets an error then.", ProgramSentencesTest::letWritesComeWithErrors);
        sentence("(Whether a node is free is checked when the act is done, not when its write comes.)",
            ProgramSentencesTest::writesToFreeNodes);
    }

    private static void programs() {
        sentence("each of the threads 0 to 2 has at most 3 calls, all together at most 6",
            ProgramSentencesTest::atMost6Calls);
        sentence("and there are at most 4 start calls.", ProgramSentencesTest::atMost4StartCalls);
        sentence("At the beginning of a run the start calls are done one after the other by a thread of their own"
            + " (thread 3), with ordered memory, each of them by steps until it is over.",
            ProgramSentencesTest::startCalls);
        sentence("If one of them meets an error, there is no run", ProgramSentencesTest::startError);
        sentence("a start call that is not over after 60 steps counts as error 6.", ProgramSentencesTest::start60Steps);
    }

    private static void steps() {
        sentence("If no call is begun, its next call begins: all locals are nothing, except that L0 is the argument, and"
            + " the thread stands at act 0", ProgramSentencesTest::callBegins);
        sentence("own operations there are done, until there is a memory operation.",
            ProgramSentencesTest::ownOperationsFirst);
        sentence("and then, unless the call is over, own operations, as long as there are such.",
            ProgramSentencesTest::ownOperationsThen);
        sentence("(At most 30 own operations are possible in one step, those at its beginning included.)",
            ProgramSentencesTest::atMost30);
        sentence("The choices are 0 to 2: a step of thread 0 to 2, possible if it has met no error and a call of it is"
            + " begun or still to come", ProgramSentencesTest::choices0To2);
        sentence("and 3 to 5: the oldest write of the buffer of thread 0 to 2 comes, possible if there is one (also if"
            + " the thread has met an error, or all its calls are over).", ProgramSentencesTest::choices3To5);
    }

    private static void states() {
        sentence("the values and counts of all words", ProgramSentencesTest::statesByWords);
        sentence("for each node whether it is free, taken, or released and not free, and in the last case with manner 4"
            + " in which epoch it was released", ProgramSentencesTest::statesByNodes);
        sentence("for each thread its locals with their counts, guards, the epoch with which it is inside, its place, its"
            + " buffer, how many calls are over, whether one is begun, and its error",
            ProgramSentencesTest::statesByThreads);
        sentence("for each call its answer and which calls (of threads 0 to 2) were over when it was begun",
            ProgramSentencesTest::statesByCalls);
        sentence("and the order of the moments.", ProgramSentencesTest::statesByMoments);
        sentence("Two states are the same if all this is equal.", ProgramSentencesTest::sameStates);
        sentence("An end is a state without possible choices.", ProgramSentencesTest::ends);
    }

    private static void freeAtFirst() {
        for (int manner = 0; manner < 5; manner++) {
            FreeShelf x = after(manner, false, 0, 0, times(6, act(TAKE, 1)));
            for (int k = 0; k < 6; k++) is("node " + k, x.node(k), 0);
            steps(x, 0, 6);
            for (int k = 0; k < 6; k++) is("node " + k + " later", x.node(k), 1);
            x.begin();
            for (int k = 0; k < 6; k++) is("node " + k + " in a new run", x.node(k), 0);
        }
    }

    private static void neverFree() {
        FreeShelf x = after(0, false, 2, 0, act(TAKE, 1), act(LET, 1), act(GUARD, 0, 1), act(GUARD, 0, 0), act(ENTER),
            act(LEAVE), act(TAKE, 2), act(LET, 2), act(RETURN, 0));
        for (int i = 0; i < 7; i++) {
            is("after act " + x.thread(0, 2), x.node(0), 2);
            steps(x, 0, 1);
        }
        is("after the call", x.node(0), 2);
        is("the other", x.node(1), 2);
        FreeShelf y = after(0, false, 12, 0, act(TAKE, 1), act(LET, 1), act(GO, 0));
        steps(y, 0, 1);
        is("none is left", y.local(0, 1, 0), 0);
        is("the last", y.node(5), 2);
    }

    private static void freeAtOnce(int manner) {
        FreeShelf x = after(manner, false, 4, 0, act(TAKE, 1), act(GUARD, 0, 1), act(ENTER), act(LET, 1), act(TAKE, 2));
        is("also with a guard, and inside", x.node(0), 0);
        steps(x, 0, 1);
        is("taken again", x.local(0, 2, 1), 0);
        FreeShelf y = after(manner, false, 1, 0, act(WRITE, 0, 0));
        is("counts", y.word(0, 3), manner == 2 ? 1 : 0);
    }

    /** Thread 0 takes node 0, writes it down and releases it; thread 2 has it as the guard. */
    private static FreeShelf guardedByOther(int guard) {
        FreeShelf x = new FreeShelf();
        Shelf.routine(x, 0, act(TAKE, 1), act(WRITE, 0, 1), act(LET, 1), act(FENCE));
        Shelf.routine(x, 1, act(READ, 1, 0), act(GUARD, guard, 1), act(GUARD, guard, 0), act(FENCE));
        x.call(0, 0, 0);
        x.call(2, 1, 0);
        x.manner(3);
        choices(x, 0, 0, 2, 2, 0);
        return x;
    }

    private static void noGuard() {
        FreeShelf x = after(3, false, 2, 0, act(TAKE, 1), act(LET, 1));
        is("without any guard", x.node(0), 0);
        for (int guard = 0; guard < 2; guard++) {
            FreeShelf y = guardedByOther(guard);
            is("guard " + guard + " of another thread", y.node(0), 2);
            y.step(2);
            is("given up", y.node(0), 0);
        }
        FreeShelf z = after(3, false, 4, 0, act(TAKE, 1), act(GUARD, 0, 1), act(GUARD, 1, 1), act(LET, 1),
            act(GUARD, 0, 0), act(GUARD, 1, 0));
        is("both guards", z.node(0), 2);
        steps(z, 0, 1);
        is("one of two", z.node(0), 2);
        steps(z, 0, 1);
        is("none of two", z.node(0), 0);
        FreeShelf w = after(3, false, 4, 0, act(TAKE, 1), act(TAKE, 2), act(GUARD, 0, 2), act(LET, 1));
        is("a guard for another node", w.node(0), 0);
        FreeShelf v = after(3, false, 2, 0, act(TAKE, 1), act(GUARD, 0, 1), act(GUARD, 0, 0));
        is("not released", v.node(0), 1);
        steps(v, 0, 1);
        is("a taken node stays taken", v.node(0), 1);
        FreeShelf six = after(3, false, 8, 0, join(times(6, act(TAKE, 1)), rows(act(GUARD, 1, 1), act(LET, 1))));
        is("node 5", six.node(5), 2);
    }

    private static void whenGuardsAreChecked() {
        FreeShelf x = after(3, false, 5, 0, act(TAKE, 1), act(GUARD, 0, 1), act(LET, 1), act(TAKE, 2), act(GUARD, 0, 2),
            act(FENCE));
        is("after guard", x.node(0), 0);
        FreeShelf y = after(3, false, 3, 0, act(TAKE, 1), act(GUARD, 1, 1), act(LET, 1), act(RETURN, 0));
        is("before the end of the call", y.node(0), 2);
        steps(y, 0, 1);
        is("at the end of the call", y.node(0), 0);
        is("after let", after(3, false, 2, 0, act(TAKE, 1), act(LET, 1)).node(0), 0);
        // A thread that has met an error keeps its guards.
        FreeShelf z = after(3, false, 4, 0, act(TAKE, 1), act(GUARD, 1, 1), act(LET, 1), act(LET, 0));
        is("an error", error(z), 2);
        is("no end of the call", z.node(0), 2);
        FreeShelf start = Shelf.with(0, act(TAKE, 1), act(GUARD, 0, 1), act(LET, 1), act(TAKE, 2), act(WRITE, 0, 2),
            act(RETURN, 0));
        start.call(3, 0, 0);
        start.manner(3);
        start.begin();
        is("the guard of a start call", start.word(0, 1), 1);
        is("the end of a start call", start.node(0), 0);
    }

    private static void epochAtFirst() {
        for (int manner = 0; manner < 5; manner++) is(after(manner, false, 0, 0, act(FENCE)).epoch(), 0);
        FreeShelf x = after(4, false, 2, 0, act(TAKE, 1), act(LET, 1));
        is("later", x.epoch(), 1);
        x.begin();
        is("in a new run", x.epoch(), 0);
        FreeShelf y = Shelf.with(0, act(TAKE, 1), act(LET, 1), act(RETURN, 1));
        y.manner(4);
        y.call(3, 0, 0);
        y.begin();
        is("start calls turn it too", y.epoch(), 2);
    }

    private static void whenTheEpochTurns() {
        int[][] none = {act(ENTER), act(LEAVE), act(TAKE, 1), act(GUARD, 0, 1), act(WRITE, 0, 1), act(RETURN, 0)};
        is("no node is released", after(4, false, 6, 0, none).epoch(), 0);
        is("let", after(4, false, 2, 0, act(TAKE, 1), act(LET, 1)).epoch(), 1);
        is("let, inside", after(4, false, 3, 0, act(ENTER), act(TAKE, 1), act(LET, 1)).epoch(), 1);
        is("enter", after(4, false, 3, 0, act(TAKE, 1), act(LET, 1), act(ENTER)).epoch(), 2);
        is("leave", after(4, false, 3, 0, act(TAKE, 1), act(LET, 1), act(LEAVE)).epoch(), 2);
        is("the end of a call", after(4, false, 3, 0, act(TAKE, 1), act(LET, 1), act(RETURN, 1)).epoch(), 2);
        is("leave, then it is not inside", after(4, false, 4, 0, act(ENTER), act(TAKE, 1), act(LET, 1), act(LEAVE))
            .epoch(), 2);
        is("likewise at the end", after(4, false, 4, 0, act(ENTER), act(TAKE, 1), act(LET, 1), act(RETURN, 1)).epoch(), 2);
        int[][] others = {act(READ, 2, 0), act(LOOK, 2, 1, 0), act(WRITE, 0, 0), act(LAY, 1, 0, 0), act(SWAP, 0, 2, 0),
            act(TURN, 1, 2, 0), act(ADD, 1, 1), act(FENCE), act(TAKE, 2), act(GUARD, 0, 1)};
        for (int[] row : others) {
            FreeShelf x = after(4, false, 3, 0, act(TAKE, 1), act(LET, 1), row);
            is("not after op " + row[0], x.epoch(), 1);
        }
        FreeShelf start = Shelf.with(0, act(RETURN, 0));
        Shelf.routine(start, 1, act(ENTER), act(TAKE, 1), act(LET, 1), act(TAKE, 1), act(LET, 1), act(RETURN, 1));
        start.call(3, 1, 0);
        start.manner(4);
        start.begin();
        is("a start call is inside: by its first let and its end", start.epoch(), 2);
        FreeShelf y = twoInside();
        is("both in the present", y.epoch(), 1);
        steps(y, 0, 2);
        is("both in the past", y.epoch(), 1);
        steps(y, 1, 1);
        is("one of them has left", y.epoch(), 1);
        steps(y, 2, 1);
        is("the other too", y.epoch(), 2);
    }

    /** Threads 1 and 2 are inside, while thread 0 has released one of two nodes. */
    private static FreeShelf twoInside() {
        FreeShelf x = new FreeShelf();
        Shelf.routine(x, 0, act(TAKE, 1), act(LET, 1), act(TAKE, 1), act(LET, 1), act(FENCE));
        Shelf.routine(x, 1, act(ENTER), act(LEAVE), act(FENCE));
        x.call(0, 0, 0);
        x.call(1, 1, 0);
        x.call(2, 1, 0);
        x.manner(4);
        choices(x, 1, 2, 0, 0);
        return x;
    }

    private static void twoEpochs() {
        FreeShelf x = after(4, false, 2, 0, act(TAKE, 1), act(LET, 1), act(TAKE, 2), act(LET, 2), act(TAKE, 3),
            act(LET, 3), act(LEAVE), act(LEAVE));
        is("0 + 2 > 1", x.node(0), 2);
        steps(x, 0, 2);
        is("epoch 2", x.epoch(), 2);
        is("0 + 2 <= 2", x.node(0), 0);
        is("1 + 2 > 2", x.node(1), 2);
        steps(x, 0, 2);
        is("epoch 3", x.epoch(), 3);
        is("1 + 2 <= 3", x.node(1), 0);
        is("node 0 was taken and released in epoch 2", x.node(0), 2);
        steps(x, 0, 1);
        is("2 + 2 <= 4", x.node(0), 0);
        is("epoch 4", x.epoch(), 4);
        steps(x, 0, 1);
        is("no node any more", x.epoch(), 4);
        // All at the same time.
        int[][] rows = join(times(6, act(TAKE, 1)), rows(act(LET, 1)));
        FreeShelf y = Shelf.with(0, act(ENTER), act(TAKE, 0), act(TAKE, 1), act(TAKE, 2), act(LET, 0), act(LET, 1),
            act(LET, 2), act(LEAVE), act(LEAVE));
        y.manner(4);
        y.begin();
        steps(y, 0, 7);
        is("epoch 1", y.epoch(), 1);
        for (int k = 0; k < 3; k++) is("released", y.node(k), 2);
        steps(y, 0, 1);
        is("the one of epoch 0", y.node(0), 0);
        is("one of epoch 1", y.node(1), 2);
        is("one of epoch 1", y.node(2), 2);
        steps(y, 0, 1);
        is("both of epoch 1", y.node(1) + y.node(2), 0);
        FreeShelf last = after(4, false, 7, 0, rows);
        is("node 5", last.node(5), 2);
    }

    private static void epochWithManner4() {
        for (int manner = 0; manner < 5; manner++) {
            FreeShelf x = after(manner, false, 4, 0, act(TAKE, 1), act(TAKE, 2), act(LET, 1), act(ENTER), act(LEAVE),
                act(LET, 2), act(RETURN, 0));
            is("inside with manner " + manner, x.thread(0, 7), manner == 4 ? 1 : 0);
            is("epoch with manner " + manner, x.epoch(), manner == 4 ? 2 : 0);
            steps(x, 0, 1);
            is("not inside", x.thread(0, 7), NONE);
            steps(x, 0, 2);
            holds("epoch with manner " + manner, manner == 4 ? x.epoch() > 2 : x.epoch() == 0);
        }
    }

    private static void atMost4() {
        FreeShelf x = after(0, true, 0, 1, join(times(5, act(WRITE, 0, 0)), rows(act(TAKE, 1), act(LAY, 1, 0, 0))));
        int[] due = {0, 1, 2, 3, 4, 4, 4, 4};
        for (int i = 0; i < 8; i++) {
            is("writes after " + i, x.thread(0, 4), due[i]);
            is("may come", x.may(3), i == 0 ? 0 : 1);
            if (i < 7) steps(x, 0, 1);
        }
        is("ordered memory has none", after(0, false, 4, 1, times(4, act(WRITE, 0, 0))).thread(0, 4), 0);
        is("they take effect at once", after(0, false, 1, 1, act(WRITE, 0, 0)).word(0, 1), 1);
        // Each thread has its own.
        FreeShelf y = Shelf.with(1, times(5, act(WRITE, 0, 0)));
        y.call(1, 0, 2);
        y.call(2, 0, 3);
        y.late(true);
        choices(y, 0, 0, 0, 0, 1, 1, 2);
        is("thread 0", y.thread(0, 4), 4);
        is("thread 1", y.thread(1, 4), 2);
        is("thread 2", y.thread(2, 4), 1);
        is("none has come", y.word(0, 0), 0);
    }

    private static void fullBuffer() {
        int[][] rows = {act(TAKE, 2), act(WRITE, 0, 0), act(PLUS, 0, 1), act(WRITE, 1, 0), act(PLUS, 0, 1),
            act(WRITE, 0, 0), act(PLUS, 0, 1), act(LAY, 2, 1, 0), act(PLUS, 0, 1), act(WRITE, 3, 0), act(PLUS, 0, 1),
            act(LAY, 2, 0, 0), act(FENCE)};
        FreeShelf x = after(0, true, 5, 1, rows);
        for (int w = 0; w < 20; w++) is("four wait", x.word(w, 0), 0);
        steps(x, 0, 1);
        is("the fifth lets the first come", x.word(0, 1), 1);
        is("only it", x.word(1, 0), 0);
        is("four wait", x.thread(0, 4), 4);
        steps(x, 0, 1);
        is("the sixth lets the second come", x.word(1, 1), 2);
        is("not the third", x.word(0, 1), 1);
        is("four wait", x.thread(0, 4), 4);
        steps(x, 0, 1);
        is("the rest", x.word(0, 1), 3);
        is("the rest", x.word(9, 1), 4);
        is("the rest", x.word(3, 1), 5);
        is("the rest", x.word(8, 1), 6);
        is("none waits", x.thread(0, 4), 0);
        FreeShelf y = after(2, true, 5, 1, times(5, act(WRITE, 0, 0)));
        is("its word gets a value", y.word(0, 3), 1);
    }

    private static void latestValue() {
        int[][] rows = {act(READ, 1, 0), act(WRITE, 0, 0), act(SET, 0, 6), act(READ, 2, 0), act(WRITE, 0, 0),
            act(READ, 3, 0), act(WRITE, 0, 5), act(READ, 4, 0), act(READ, 0, 1)};
        FreeShelf x = after(2, true, 8, 5, rows);
        local(x, 1, 0, 0, 0, 0);
        local(x, 2, 1, 5, 0, 0);
        local(x, 3, 1, 6, 0, 0);
        local(x, 4, 0, 0, 0, 0);
        local(x, 0, 0, 0, 0, 0);
        FreeShelf y = after(2, true, 3, 5, act(WRITE, 0, 0), act(FENCE), act(WRITE, 0, 1), act(READ, 2, 0),
            act(READ, 3, 0));
        steps(y, 0, 1);
        local(y, 2, 0, 0, 0, 1);
        is("the write comes", y.step(3), 5);
        steps(y, 0, 1);
        local(y, 3, 0, 0, 0, 2);
        FreeShelf z = after(2, true, 5, 5, act(TAKE, 1), act(LAY, 1, 1, 0), act(LOOK, 2, 1, 1), act(LOOK, 3, 1, 0),
            act(FENCE), act(LOOK, 4, 1, 1));
        steps(z, 0, 1);
        local(z, 2, 1, 5, 0, 0);
        local(z, 3, 0, 0, 0, 0);
        local(z, 4, 1, 5, 0, 1);
        FreeShelf w = Shelf.with(5, act(WRITE, 0, 0), act(READ, 1, 0));
        w.call(1, 0, 6);
        w.late(true);
        choices(w, 0, 1, 0, 1);
        is("its own", w.local(0, 1, 1), 5);
        is("its own", w.local(1, 1, 1), 6);
        FreeShelf four = after(0, true, 5, 5, act(WRITE, 0, 0), act(WRITE, 1, 0), act(WRITE, 2, 0), act(SET, 0, 9),
            act(WRITE, 3, 0), act(READ, 1, 3));
        is("the fourth", four.local(0, 1, 1), 9);
    }

    /** What word 0 and word 1 hold after four writes and another act with node 0 in local 1. */
    private static void comes(boolean all, int[] row) {
        FreeShelf x = after(2, true, 6, 5, act(TAKE, 1), act(WRITE, 0, 1), act(WRITE, 1, 0), act(WRITE, 0, 0),
            act(WRITE, 1, 1), row, act(FENCE));
        is("word 0 after op " + row[0], x.word(0, 1), all ? 5 : 0);
        is("word 0 after op " + row[0], x.word(0, 0), all ? 1 : 0);
        is("both writes", x.word(0, 3), all ? 2 : 0);
        is("word 1 after op " + row[0], x.word(1, 0), all ? 2 : 0);
        is("writes after op " + row[0], x.thread(0, 4), all ? 0 : 4);
    }

    private static void letWritesCome() {
        for (int[] row : rows(act(SWAP, 2, 2, 2), act(SWAP, 2, 1, 1), act(TURN, 1, 2, 2), act(ADD, 2, 0), act(FENCE),
            act(LET, 1), act(RETURN, 1))) comes(true, row);
        for (int[] row : rows(act(READ, 2, 0), act(LOOK, 2, 1, 0), act(TAKE, 2), act(GUARD, 0, 1), act(ENTER),
            act(LEAVE))) comes(false, row);
        for (int[] row : rows(act(SWAP, 2, 2, 2), act(ADD, 2, 0), act(FENCE), act(RETURN, 1))) {
            is("with an empty buffer, op " + row[0], error(after(0, true, 1, 5, row)), 0);
        }
        FreeShelf y = after(0, true, 2, 5, act(WRITE, 0, 0), act(SWAP, 0, 0, 1), act(FENCE));
        is("a swap sees them", y.local(0, 5, 1), 1);
        FreeShelf z = Shelf.with(5, act(WRITE, 0, 0), act(FENCE));
        z.call(1, 0, 6);
        z.late(true);
        choices(z, 0, 1, 0);
        is("not those of other threads", z.word(0, 1), 5);
        is("thread 1 has its own", z.thread(1, 4), 1);
    }

    private static void letWritesComeWithErrors() {
        for (int[] row : rows(act(TURN, 2, 0, 0), act(TURN, 0, 0, 0), act(LET, 2), act(LET, 0))) {
            FreeShelf x = after(0, true, 3, 5, act(WRITE, 0, 0), act(WRITE, 1, 0), row);
            holds("an error", error(x) == 1 || error(x) == 2);
            is("the first has come", x.word(0, 1), 5);
            is("the second has come", x.word(1, 1), 5);
            is("none waits", x.may(3), 0);
        }
        FreeShelf add = after(0, true, 3, 5, act(TAKE, 1), act(WRITE, 0, 1), act(ADD, 0, 0));
        is("add finds a node", error(add), 2);
        is("it has come", add.word(0, 0), 2);
        for (int[] row : rows(act(LOOK, 1, 2, 0), act(LAY, 2, 0, 0))) {
            FreeShelf x = after(0, true, 5, 5, join(times(4, act(WRITE, 0, 0)), rows(row)));
            is("an error", error(x), 1);
            is("nothing has come", x.word(0, 0), 0);
            is("four wait", x.thread(0, 4), 4);
        }
    }

    /** Thread 0 lays its argument into a field of a node that thread 1 releases before the write comes. */
    private static void writesToFreeNodes() {
        FreeShelf x = new FreeShelf();
        Shelf.routine(x, 0, act(READ, 1, 0), act(LAY, 1, 1, 0), act(RETURN, 0));
        Shelf.routine(x, 1, act(READ, 1, 0), act(LET, 1), act(TAKE, 2), act(RETURN, 2));
        Shelf.routine(x, 2, act(TAKE, 1), act(WRITE, 0, 1), act(RETURN, 1));
        x.call(3, 2, 0);
        x.call(0, 0, 5);
        x.call(1, 1, 0);
        x.manner(1);
        x.late(true);
        choices(x, 0, 0, 1, 1);
        is("free", x.node(0), 0);
        is("not come", x.word(9, 0), 0);
        is("it comes", x.step(3), 5);
        is("to a free node", x.word(9, 1), 5);
        is("no error", error(x), 0);
        choices(x, 0, 0, 1, 1, 1, 3);
        is("taken again", x.node(0), 1);
        is("to the node that is taken again", x.word(9, 1), 5);
        choices(x, 0, 0, 1, 1, 0);
        is("return lets it come too", x.word(9, 1), 5);
        is("no error", x.answer(0, 0), 5);
        choices(x, 0, 1, 1, 0);
        is("free when the act is done", error(x), 4);
        is("nothing waits", x.thread(0, 4), 0);
    }

    private static void atMost6Calls() {
        FreeShelf x = new FreeShelf();
        for (int i = 1; i <= 3; i++) is("thread 0", x.call(0, 0, 0), i);
        is("a fourth call", x.call(0, 0, 0), FULL);
        for (int i = 1; i <= 3; i++) is("thread 1", x.call(1, 0, 0), i);
        is("a seventh call", x.call(2, 0, 0), FULL);
        is("thread 3 is another matter", x.call(3, 0, 0), 1);
        is("there were seven", x.clear(), 7);
        for (int i = 1; i <= 2; i++) for (int t = 0; t < 3; t++) is("two each", x.call(t, 0, 0), i);
        for (int t = 0; t < 3; t++) is("a third one of thread " + t, x.call(t, 0, 0), FULL);
        is("there were six", x.clear(), 6);
        x.act(0, RETURN, 0, 0, 0);
        for (int i = 0; i < 6; i++) x.call(i / 3 * 2, 0, 10 + i);
        choices(x, 0, 0, 0, 2, 2, 2);
        for (int i = 0; i < 6; i++) is("its argument", x.answer(i / 3 * 2, i % 3), 10 + i);
        is("over", x.may(0) + x.may(2), 0);
    }

    private static void atMost4StartCalls() {
        FreeShelf x = new FreeShelf();
        for (int i = 1; i <= 4; i++) is("start call", x.call(3, 0, i), i);
        is("a fifth one", x.call(3, 0, 5), FULL);
        Shelf.routine(x, 0, act(ADD, 0, 1), act(WRITE, 1, 0), act(RETURN, 0));
        is("other threads have room", x.call(0, 0, 9), 1);
        is(x.begin(), 1);
        is("four were done", x.word(0, 1), 4);
        is("the fourth was the last", x.word(1, 1), 4);
        is("there were five", x.clear(), 5);
        x.call(2, 0, 9);
        x.begin();
        is("no start calls", x.word(0, 0), 0);
    }

    private static void startCalls() {
        FreeShelf x = new FreeShelf();
        Shelf.routine(x, 0, act(READ, 1, 1), act(WRITE, 0, 1), act(WRITE, 1, 0), act(RETURN, 0));
        x.call(3, 0, 4);
        x.call(3, 0, 5);
        x.call(1, 0, 6);
        x.late(true);
        x.begin();
        is("one after the other", x.word(0, 1), 4);
        is("one after the other", x.word(1, 1), 5);
        for (int c = 0; c < 6; c++) is("only thread 1 has a call", x.may(c), c == 1 ? 1 : 0);
        for (int t = 0; t < 3; t++) is("no thread has done it", x.thread(t, 0), 0);
        is("no step is counted", x.step(1), 1);
        x.step(1);
        is("late after that", x.thread(1, 4), 1);
        // Ordered memory: the count of a word is read as its own write has made it.
        FreeShelf y = Shelf.with(5, act(WRITE, 0, 0), act(READ, 1, 0), act(SWAP, 0, 1, 2), act(WRITE, 7, 5), act(RETURN, 0));
        y.call(3, 0, 5);
        y.manner(2);
        y.late(true);
        for (int i = 0; i < 3; i++) {
            y.begin();
            is("the swap goes well", y.word(7, 1), 1);
            steps(y, 0, 2);
            is("late again", y.thread(0, 4), 1);
        }
    }

    private static void startError() {
        int[][][] programs = {rows(act(LET, 1)), rows(act(LET, 0)), rows(act(FENCE)), rows(act(TAKE, 1), act(LET, 1),
            act(LOOK, 1, 1, 0)), rows(act(TAKE, 1), act(LET, 1), act(LET, 1)), rows(act(GO, 0))};
        for (int e = 1; e <= 6; e++) {
            FreeShelf x = Shelf.with(0, act(RETURN, 0));
            Shelf.routine(x, 1, programs[e - 1]);
            x.manner(1);
            is("a run", x.begin(), 1);
            x.call(3, 1, 0);
            is("error " + e, x.begin(), -10 - e);
            is("no run", x.step(0), NO);
            is("no run", x.word(0, 0), NO_RUN);
        }
        FreeShelf y = Shelf.with(0, act(RETURN, 0));
        y.call(3, 0, 0);
        y.call(3, 0, 0);
        y.call(3, 0, 0);
        is("three go well", y.begin(), 1);
        y.call(3, 5, 0);
        is("the fourth does not", y.begin(), -11);
    }

    private static void start60Steps() {
        FreeShelf x = Shelf.with(0, act(RETURN, 0));
        Shelf.countDown(x, 1);
        x.call(3, 1, 59);
        is("60 steps", x.begin(), 1);
        x.call(3, 1, 59);
        is("60 steps for each", x.begin(), 1);
        x.call(3, 1, 60);
        is("61 steps", x.begin(), -16);
        is("no run", x.may(0), NO);
        // An error in step 60 is this error, one in step 61 comes too late.
        for (int n = 58; n <= 60; n++) {
            FreeShelf y = Shelf.with(0, act(RETURN, 0));
            Shelf.countDown(y, 1);
            y.tear(1, 5);
            y.act(1, LET, 1, 0, 0);
            y.call(3, 1, n);
            is("an error in step " + (n + 1), y.begin(), n < 60 ? -12 : -16);
        }
        FreeShelf z = Shelf.with(0, act(FENCE), act(GO, 0));
        z.call(3, 0, 0);
        is("for ever", z.begin(), -16);
        is("explored", z.explore(), -16);
    }

    private static void callBegins() {
        FreeShelf x = Shelf.with(-99, act(SET, 1, 5), act(SET, 5, 6), act(GUARD, 0, 1), act(FENCE), act(RETURN, 0));
        Shelf.routine(x, 1, act(FENCE), act(RETURN, 5));
        x.call(0, 1, 99);
        x.begin();
        is("no call is begun", x.thread(0, 1), 0);
        is("no local", x.local(0, 0, 0), 0);
        steps(x, 0, 1);
        local(x, 0, 1, -99, 0, 0);
        local(x, 5, 1, 6, 0, 0);
        steps(x, 0, 2);
        is("over", x.thread(0, 0), 1);
        is("at no act", x.thread(0, 2), 0);
        is("the next is not begun", x.thread(0, 1), 0);
        steps(x, 0, 1);
        is("the next is begun", x.thread(0, 1), 1);
        local(x, 0, 1, 99, 0, 0);
        for (int l = 1; l < 6; l++) local(x, l, 0, 0, 0, 0);
        is("the act after act 0", x.thread(0, 2), 1);
    }

    private static void ownOperationsFirst() {
        FreeShelf x = after(1, 3, act(PLUS, 0, 1), act(PLUS, 0, 1), act(WRITE, 0, 0), act(WRITE, 1, 0));
        is("both, and then one memory operation", x.word(0, 1), 5);
        is("only one", x.word(1, 0), 0);
        is("none at the beginning", after(1, 3, act(WRITE, 0, 0)).word(0, 1), 3);
        is("until there is no act", error(after(1, 3, act(PLUS, 0, 1))), 3);
        FreeShelf y = after(1, 3, act(PLUS, 1, 1), act(WRITE, 0, 0));
        is("an error on the way", error(y), 1);
        is("no memory operation then", y.word(0, 0), 0);
    }

    private static void ownOperationsThen() {
        FreeShelf x = after(1, 3, act(FENCE), act(PLUS, 0, 1), act(PLUS, 0, 1), act(WRITE, 0, 0), act(PLUS, 0, 1));
        is("both", x.local(0, 0, 1), 5);
        is("up to the memory operation", x.thread(0, 2), 3);
        is("which is not done", x.word(0, 0), 0);
        FreeShelf y = after(1, 3, act(FENCE), act(WRITE, 0, 0));
        is("there are none", y.thread(0, 2), 1);
        FreeShelf z = after(1, 3, act(RETURN, 0), act(PLUS, 0, 1), act(PLUS, 1, 1));
        is("the call is over", z.thread(0, 0), 1);
        is("no own operations", z.local(0, 0, 0), 0);
        is("no error", error(z), 0);
        FreeShelf v = after(1, 3, act(SET, 1, 5), act(PLUS, 0, 1), act(RETURN, 0));
        is("the call is over", v.answer(0, 0), 4);
        for (int l = 0; l < 6; l++) local(v, l, 0, 0, 0, 0);
        is("it is not begun again", v.thread(0, 1), 0);
        is("no error", error(v), 0);
        is("at no act", v.thread(0, 2), 0);
        FreeShelf w = after(1, 3, act(FENCE), act(PLUS, 0, 1), act(PLUS, 1, 1));
        is("an error at the end of a step", error(w), 1);
        is("after one of them", w.local(0, 0, 1), 4);
    }

    /** Whether a step is possible with so many own operations at its beginning and behind its fence. */
    private static int errorWith(int before, int behind) {
        // Three to set up; then twice as many as the rounds are, and one more to leave them.
        FreeShelf x = new FreeShelf();
        ownOperations(x, before);
        x.act(0, FENCE, 0, 0, 0);
        ownOperations(x, behind);
        x.act(0, FENCE, 0, 0, 0);
        x.call(0, 0, 0);
        x.begin();
        x.step(0);
        return error(x);
    }

    /** Own operations, so many: single ones up to 9, else a circle of three acts, gone through as often as needed. */
    private static void ownOperations(FreeShelf x, int n) {
        int left = n;
        if (n > 9) {
            int rounds = (n - 3) / 3;
            int at = Math.max(0, x.told(0, -1, 0));
            x.act(0, SET, 3, 0, 0);
            x.act(0, SET, 4, rounds, 0);
            x.act(0, PLUS, 3, 1, 0);
            x.act(0, SAME, 3, 4, at + 5);
            x.act(0, GO, at + 2, 0, 0);
            left = n - 2 - (3 * rounds - 1);
        }
        for (int i = 0; i < left; i++) x.act(0, SET, 2, 0, 0);
    }

    private static void atMost30() {
        int[][] possible = {{30, 0}, {0, 30}, {29, 1}, {1, 29}, {15, 15}, {9, 21}, {0, 0}, {29, 0}};
        for (int[] n : possible) is(n[0] + " and " + n[1], errorWith(n[0], n[1]), 0);
        int[][] tooMany = {{31, 0}, {0, 31}, {30, 1}, {1, 30}, {29, 2}, {16, 15}, {15, 16}};
        for (int[] n : tooMany) is(n[0] + " and " + n[1], errorWith(n[0], n[1]), 6);
    }

    private static void choices0To2() {
        FreeShelf x = Shelf.with(0, act(FENCE), act(RETURN, 0));
        x.call(0, 0, 0);
        x.call(2, 1, 0);
        x.begin();
        is("to come", x.may(0), 1);
        is("no calls", x.may(1), 0);
        is("to come", x.may(2), 1);
        steps(x, 0, 1);
        is("begun", x.may(0), 1);
        steps(x, 0, 1);
        is("one is still to come", x.may(0), 1);
        steps(x, 0, 1);
        is("the last is begun", x.may(0), 1);
        steps(x, 0, 1);
        is("all are over", x.may(0), 0);
        is("not possible", x.step(0), NO);
        is("others", x.step(2), 5);
        is("an error", x.may(2), 0);
        is("not possible", x.step(2), NO);
        FreeShelf y = Shelf.with(0, act(RETURN, 0));
        y.call(0, 1, 0);
        y.call(0, 0, 0);
        choices(y, 0, 0);
        is("an error in a call that is not the last", y.may(0), 0);
    }

    private static void choices3To5() {
        for (int t = 0; t < 3; t++) {
            FreeShelf x = new FreeShelf();
            Shelf.routine(x, 0, act(WRITE, 0, 0), act(WRITE, 0, 1), act(LOOK, 1, 1, 0));
            x.call(t, 0, 5);
            x.late(true);
            x.begin();
            is("none yet", x.may(3 + t), 0);
            steps(x, t, 2);
            for (int c = 3; c < 6; c++) is("choice " + c, x.may(c), c == 3 + t ? 1 : 0);
            is("the oldest", x.step(3 + t), 3);
            is("came", x.word(0, 1), 5);
            steps(x, t, 1);
            is("it has met an error", x.thread(t, 3), 1);
            is("no step", x.may(t), 0);
            is("a write all the same", x.may(3 + t), 1);
            is("not an end", x.agrees(), NO);
            is("the other", x.step(3 + t), 5);
            is("came", x.word(0, 0), 0);
            is("no more", x.may(3 + t), 0);
            is("no more", x.step(3 + t), NO);
            is("an end", x.agrees(), 0);
        }
        FreeShelf y = after(0, true, 2, 5, act(WRITE, 0, 0), act(RETURN, 0));
        is("all calls over: return has let all come", y.may(3), 0);
        is("ordered memory", after(0, false, 1, 5, act(WRITE, 0, 0)).may(3), 0);
    }

    /** The number of states of a thread with this routine, which has an argument of 5, the same for each thread. */
    private static int statesOf(int manner, boolean late, int[]... rows) {
        return statesOf(5, manner, late, rows);
    }

    private static int statesOf(int argument, int manner, boolean late, int[]... rows) {
        FreeShelf x = Shelf.with(argument, rows);
        x.manner(manner);
        x.late(late);
        int states = x.explore();
        for (int t = 1; t < 3; t++) {
            x.clear();
            x.call(t, 0, argument);
            is("for thread " + t, x.explore(), states);
        }
        return states;
    }

    /** Two threads: one writes local l of a call with argument 0, the other does an act; then both are in a circle. */
    private static int statesOfTwo(int l, int[] row) {
        FreeShelf x = Shelf.with(0, act(WRITE, 0, l), act(FENCE), act(GO, 1));
        Shelf.routine(x, 1, row, act(FENCE), act(GO, 1));
        x.call(1, 1, 0);
        return x.explore();
    }

    private static void statesByWords() {
        is("values", statesOf(0, false, act(ADD, 0, 1), act(GO, 0)), 100);
        is("nothing and 0", statesOfTwo(0, act(WRITE, 0, 1)), 5);
        is("nothing twice", statesOfTwo(1, act(WRITE, 0, 1)), 4);
        is("marks", statesOf(0, false, act(WRITE, 0, 0), act(MARK, 0, 1), act(WRITE, 0, 0), act(MARK, 0, 0), act(GO, 0)), 3);
        is("four counts", statesOf(2, false, act(WRITE, 0, 1), act(GO, 0)), 5);
        is("no counts", statesOf(1, false, act(WRITE, 0, 1), act(GO, 0)), 2);
        is("counts of fields", statesOf(2, false, act(TAKE, 1), act(LAY, 1, 1, 2), act(GO, 1)), 5);
        is("values that stay", statesOf(0, false, act(WRITE, 0, 0), act(GO, 0)), 2);
    }

    private static void statesByNodes() {
        // The place and the locals come back to what they were; the node does not.
        is("taken and free", statesOf(1, false, act(TAKE, 1), act(LET, 1), act(BLANK, 1), act(GO, 0)), 3);
        is("released, one more each time", statesOf(0, false, act(TAKE, 1), act(LET, 1), act(BLANK, 1), act(GO, 0)), 15);
        is("taken, one more each time", statesOf(0, false, act(FENCE), act(TAKE, 1), act(BLANK, 1), act(GO, 0)), 14);
        is("the epoch increases for ever", statesOf(4, false, act(TAKE, 1), act(LET, 1), act(LEAVE), act(BLANK, 1),
            act(GO, 0)), SPENT);
        is("no epoch", statesOf(1, false, act(TAKE, 1), act(LET, 1), act(LEAVE), act(BLANK, 1), act(GO, 0)), 4);
        holds("node 0 in epoch 0, node 1 in epoch 1, or the other way", differByOrder(4, 2));
        holds("without an epoch", !differByOrder(0, 2));
        holds("free with guards", !differByOrder(3, 0));
    }

    /** Whether it can be told in which order threads 0 and 1 have released nodes, while thread 2 is inside. */
    private static boolean differByOrder(int manner, int node) {
        FreeShelf x = new FreeShelf();
        for (int t = 0; t < 2; t++) {
            Shelf.routine(x, t, act(READ, 1, t), act(LET, 1), act(BLANK, 1), act(FENCE), act(GO, 3));
            x.call(t, t, 0);
        }
        Shelf.routine(x, 2, act(ENTER), act(FENCE), act(GO, 1));
        x.call(2, 2, 0);
        Shelf.routine(x, 3, act(TAKE, 1), act(WRITE, 0, 1), act(TAKE, 1), act(WRITE, 1, 1), act(RETURN, 1));
        x.call(3, 3, 0);
        x.manner(manner);
        holds("explored", x.explore() > 0);
        int one = comeTo(x, 2, 0, 1, 0, 1);
        int other = comeTo(x, 2, 0, 1, 1, 0);
        for (int state : new int[] {one, other}) {
            is("five choices", x.go(state), 5);
            is("node 0", x.node(0), node);
            is("node 1", x.node(1), node);
            is("epoch", x.epoch(), manner == 4 ? 1 : 0);
        }
        return one != other;
    }

    /** The state to which choices lead from the first one on. */
    private static int comeTo(FreeShelf x, int... choices) {
        int state = 0;
        for (int choice : choices) state = x.next(state, choice);
        return state;
    }

    private static void statesByThreads() {
        is("locals", statesOf(0, false, act(FENCE), act(PLUS, 0, 1), act(GO, 0)), 95);
        is("counts of locals", statesOf(2, false, act(WRITE, 0, 1), act(READ, 2, 0), act(GO, 0)), 9);
        is("guards", statesOf(0, false, act(GUARD, 0, 1), act(TAKE, 1), act(GUARD, 0, 1), act(GO, 2)), 4);
        is("the same guard again", statesOf(0, false, act(GUARD, 0, 0), act(GO, 0)), 2);
        for (int guard = 0; guard < 2; guard++) {
            holds("node 0 or none as a guard", differByTime(act(GUARD, guard, 1)));
        }
        for (int l : new int[] {0, 2, 3, 4, 5}) holds("node 0 or nothing in a local", differByTime(act(COPY, l, 1)));
        for (int l = 0; l < 6; l++) holds("nothing with count 0 or 1", differByCount(2, l) && !differByCount(1, l));
        is("begun or not", statesOf(0, false, act(FENCE), act(BLANK, 0), act(GO, 0)), 2);
        is("over or not", statesOf(0, 0, false, act(RETURN, 0)), 2);
        is("writes of nothing to global 0", statesOf(0, 0, true, act(WRITE, 0, 1), act(GO, 0)), 6);
        holds("nothing that is left of it", !differByTime(act(FENCE)));
        holds("inside with epoch 0 or 1", differByEpoch(act(ENTER)));
        holds("not inside", !differByEpoch(act(LEAVE)));
        holds("a write in the buffer, or in the word already", differByBuffer());
        is("inside", statesOf(0, false, act(ENTER), act(GO, 0)), 2);
        is("places", statesOf(0, false, act(FENCE), act(FENCE), act(FENCE), act(GO, 0)), 4);
        is("buffers", statesOf(0, true, act(WRITE, 0, 0), act(GO, 0)), 10);
        is("calls over, begun, and an error", statesOf(0, false, act(FENCE), act(LET, 0)), 3);
    }

    /** Whether it can be told, after an act, if thread 0 read node 0 before thread 1 wrote nothing over it. */
    private static boolean differByTime(int[] row) {
        FreeShelf x = Shelf.with(0, act(READ, 1, 0), row, act(FENCE), act(BLANK, 1), act(FENCE), act(GO, 4));
        Shelf.routine(x, 1, act(WRITE, 0, 1), act(FENCE), act(GO, 1));
        Shelf.routine(x, 2, act(TAKE, 1), act(WRITE, 0, 1), act(RETURN, 0));
        x.call(1, 1, 0);
        x.call(3, 2, 0);
        x.explore();
        int one = comeTo(x, 0, 0, 0, 1);
        int other = comeTo(x, 1, 0, 0, 0);
        if (row[0] == COPY) return comeTo(x, 0, 0, 1) != comeTo(x, 1, 0, 0);
        holds("both are kept", one > 0 && other > 0);
        return one != other;
    }

    /** Whether it can be told if thread 0 read nothing before or after thread 1 wrote nothing. */
    private static boolean differByCount(int manner, int l) {
        FreeShelf x = Shelf.with(0, act(READ, l, 0), act(FENCE), act(GO, 1));
        Shelf.routine(x, 1, act(WRITE, 0, 1), act(FENCE), act(GO, 1));
        x.call(1, 1, 0);
        x.manner(manner);
        x.explore();
        return comeTo(x, 0, 1) != comeTo(x, 1, 0);
    }

    /** Whether it can be told if thread 0 did an act in epoch 0 or 1, which thread 2 does not let pass. */
    private static boolean differByEpoch(int[] row) {
        FreeShelf x = Shelf.with(0, row, act(FENCE), act(GO, 1));
        Shelf.routine(x, 1, act(READ, 1, 0), act(LET, 1), act(FENCE), act(GO, 2));
        Shelf.routine(x, 2, act(ENTER), act(FENCE), act(GO, 1));
        Shelf.routine(x, 3, act(TAKE, 1), act(WRITE, 0, 1), act(RETURN, 0));
        x.call(1, 1, 0);
        x.call(2, 2, 0);
        x.call(3, 3, 0);
        x.manner(4);
        x.explore();
        int one = comeTo(x, 2, 0, 1, 1);
        int other = comeTo(x, 2, 1, 1, 0);
        x.go(one);
        is("epoch", x.epoch(), 1);
        x.go(other);
        is("epoch", x.epoch(), 1);
        return one != other;
    }

    /** Thread 0 writes what the word holds already; all that changes is its buffer. */
    private static boolean differByBuffer() {
        FreeShelf x = Shelf.with(5, act(WRITE, 0, 0), act(GO, 0));
        Shelf.routine(x, 1, act(WRITE, 0, 0), act(RETURN, 0));
        x.call(3, 1, 5);
        x.late(true);
        is("the first state, and none to four writes in the buffer", x.explore(), 6);
        return comeTo(x, 0) != comeTo(x, 0, 3) && comeTo(x, 0, 3, 0) == comeTo(x, 0);
    }

    private static void statesByCalls() {
        // Two calls that only return: begun and over in one step.
        FreeShelf x = Shelf.with(1, act(RETURN, 0));
        x.call(1, 0, 2);
        is("one order or the other", x.explore(), 5);
        is("two ends", x.explored(1), 2);
        // What was read, or nothing; and in the latter case thread 1 has begun before or after the call was over.
        FreeShelf y = Shelf.with(1, act(FENCE), act(READ, 1, 0), act(RETURN, 1));
        Shelf.routine(y, 1, act(FENCE), act(WRITE, 0, 0), act(LET, 0));
        y.call(1, 1, 1);
        y.explore();
        is("three ends", y.explored(1), 3);
        is("no end agrees with errors", y.answers(), 0);
    }

    private static void statesByMoments() {
        FreeShelf x = Shelf.with(0, act(READ, 1, 0), act(FENCE), act(RETURN, 0));
        x.call(1, 0, 0);
        int without = x.explore();
        x.moment(0, 0, true);
        int with = x.explore();
        holds("which read was first", with > without);
        x.clear();
        x.call(0, 0, 0);
        is("one call has no order", x.explore(), 4);
        // A moment that comes again in a circle: the same order again.
        FreeShelf y = Shelf.with(0, act(READ, 1, 0), act(GO, 0));
        y.moment(0, 0, true);
        is("again and again", y.explore(), 2);
    }

    private static void sameStates() {
        FreeShelf x = Shelf.with(0, act(FENCE), act(FENCE), act(GO, 0));
        x.call(1, 0, 0);
        is("each of two threads before, at one fence or the other", x.explore(), 9);
        is("both ways lead there", x.next(x.next(0, 0), 1), x.next(x.next(0, 1), 0));
        is("round", x.next(x.next(x.next(0, 0), 0), 0), x.next(0, 0));
        is("a step that changes nothing", statesOf(0, false, act(FENCE), act(GO, 0)), 2);
    }

    private static void ends() {
        FreeShelf x = after(0, true, 1, 5, act(WRITE, 0, 0), act(PLUS, 1, 1));
        is("a write can come", x.agrees(), NO);
        x.step(3);
        is("an end", x.agrees(), 0);
        FreeShelf y = Shelf.with(5, act(RETURN, 0));
        y.call(0, 0, 6);
        y.begin();
        is("at first", y.agrees(), NO);
        steps(y, 0, 1);
        is("a call is to come", y.agrees(), NO);
        steps(y, 0, 1);
        is("an end", y.agrees(), 1);
        is("no choice", y.run(1), 0);
        y.explore();
        is("one end", y.explored(1), 1);
        is("the last state", y.first(6), 2);
        FreeShelf z = Shelf.with(5, act(FENCE), act(GO, 0));
        z.explore();
        is("none", z.explored(1), 0);
    }
}
