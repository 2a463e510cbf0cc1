import java.io.IOException;

/** The sentences of the description that name a boundary case: models, moments, exploration and errors. */
public final class ModelSentencesTest extends Sentences {
    // Routines of the programs for models, and what they mean: a put and a get that answer their argument, a get and a
    // put that answer nothing, one that means nothing, and a put that answers 3 more than its argument.
    private static final int PUT = 0, GET = 1, GET_NONE = 2, PUT_NONE = 3, MEANS_NONE = 4, PUT_MORE = 5;
    private static final int[] MEANINGS = {1, 2, 2, 1, 0, 1};
    private static final int STACK = 1, QUEUE = 2, SUM = 3, CELL = 4;

    public static void main(String[] args) throws IOException {
        models();
        moments();
        exploration();
        errors();
        close("ModelSentencesTest", args);
    }

    private static void models() {
        sentence("The model is 0 none, 1 stack, 2 queue, 3 sum, 4 cell.", ModelSentencesTest::fiveModels);
        sentence("A routine means 0 nothing, 1 put, or 2 get.", ModelSentencesTest::threeMeanings);
        sentence("a put with stack or queue adds its argument", ModelSentencesTest::putAdds);
        sentence("with sum it adds the argument to the sum, which is 0 at first, and its answer must be the new sum",
            ModelSentencesTest::sum);
        sentence("with cell the cell, 0 at first, becomes the argument (all other answers of puts are arbitrary).",
            ModelSentencesTest::cell);
        sentence("A get with stack or queue removes what was added last, or first, and this must be its answer, or -100,"
            + " if there is nothing", ModelSentencesTest::getRemoves);
        sentence("with sum or cell its answer must be the sum or the content of the cell.",
            ModelSentencesTest::getSumOrCell);
        sentence("Calls of routines that mean nothing have no effect and arbitrary answers.",
            ModelSentencesTest::noMeaning);
        sentence("The start calls are done first, in their order, with arbitrary answers.",
            ModelSentencesTest::startCallsFirst);
        sentence("An end agrees if no thread has met an error and, if there is a model, there is an order",
            ModelSentencesTest::errorsDoNotAgree);
        sentence("in which each call comes after all those that were over when it was begun",
            ModelSentencesTest::afterThoseThatWereOver);
    }

    private static void moments() {
        sentence("Acts with the operations 0 to 6 can be marked as moments.", ModelSentencesTest::momentsOfOperations);
        sentence("The moment of a call is when such an act of it is done without an error for the last time",
            ModelSentencesTest::lastTime);
        sentence("a swap or turn counts only if it gave its word the new value (L5 is 1 then, also if the value is the"
            + " same as before)", ModelSentencesTest::swapThatFails);
        sentence("a write or lay counts when the act is done, also if memory is late.",
            ModelSentencesTest::whenTheWriteIsDone);
        sentence("An end keeps the moments if no thread has met an error, each call of threads 0 to 2 has a moment",
            ModelSentencesTest::eachCallHasAMoment);
        sentence("and, done in the order of their moments, all these calls have the answers that they must have.",
            ModelSentencesTest::orderOfMoments);
    }

    private static void exploration() {
        sentence("The states are found beginning with the first one (after the start calls), which is state 0",
            ModelSentencesTest::state0);
        sentence("all possible choices are made, in ascending order, and each state that is new gets the next number.",
            ModelSentencesTest::ascending);
        sentence("At most 1500 states are kept; if there are more, the exploration is incomplete",
            ModelSentencesTest::atMost1500);
        sentence("new states are disregarded then, but all kept ones are gone through.",
            ModelSentencesTest::allKeptOnes);
        sentence("the walk to the state from which it was found, and the choice.", ModelSentencesTest::walks);
        sentence("A thread can finish alone from a state if it has begun no call there, or has met an error",
            ModelSentencesTest::noCallOrError);
        sentence("or if by at most 60 steps of its own, without any other choices, this call is over or the thread meets"
            + " an error.", ModelSentencesTest::finish60Steps);
        sentence("A state is in a cycle if one can come from it to itself by one or more choices over kept states, none"
            + " of which ends a call.", ModelSentencesTest::cycles);
    }

    private static void errors() {
        sentence("BAD: an argument is out of its range, or there is no such thing. NO: the call is not possible, as told."
            + " FULL: there is no room.", ModelSentencesTest::numbersOfErrors);
        sentence("If several apply to a call, the result is the one that the description of the method's result names"
            + " first.", ModelSentencesTest::firstNamed);
        sentence("a method returns NONE only if no error applies.", ModelSentencesTest::noneLast);
        sentence("A call that returns an error changes nothing, except where something else is said.",
            ModelSentencesTest::errorsChangeNothing);
        sentence("Routines, calls and settings that are changed have an effect from the next call of the methods begin"
            + " and explore on.", ModelSentencesTest::changesLater);
    }

    /** The six routines; act 0 of each is its moment. */
    private static FreeShelf routines(int model) {
        FreeShelf x = new FreeShelf();
        for (int r = 0; r < 6; r++) {
            boolean none = r == GET_NONE || r == PUT_NONE;
            Shelf.routine(x, r, act(ADD, 7, 0), act(FENCE), act(PLUS, 0, r == PUT_MORE ? 3 : 0), act(RETURN, none ? 1 : 0));
            x.moment(r, 0, true);
            x.means(r, MEANINGS[r]);
        }
        x.model(model);
        return x;
    }

    /** Whether calls one after the other agree; each has a routine and an argument. */
    private static int agreeing(int model, int... calls) {
        return agreeing(model, new int[0], calls);
    }

    private static int agreeing(int model, int[] starts, int... calls) {
        FreeShelf x = routines(model);
        for (int i = 0; i < starts.length; i += 2) is(x.call(3, starts[i], starts[i + 1]) > 0 ? 1 : 0, 1);
        for (int i = 0; i < calls.length; i += 2) {
            is(x.call(i / 6, calls[i], calls[i + 1]) > 0 ? 1 : 0, 1);
        }
        is("begin", x.begin(), 1);
        for (int i = 0; i < calls.length; i += 2) steps(x, i / 6, 3);
        if (model != 0) is("done in order, the moments tell the same", x.keeps(), x.agrees());
        return x.agrees();
    }

    private static void fiveModels() {
        // The last two answers for a stack, a queue, a sum and a cell.
        int[][] gets = {{1, 3}, {3, 1}, {4, 4}, {1, 1}};
        for (int model = 0; model < 5; model++) {
            for (int i = 0; i < 4; i++) {
                int got = agreeing(model, PUT, 3, PUT_MORE, 1, GET, gets[i][0], GET, gets[i][1]);
                is("model " + model + ", answers " + i, got, model == 0 || model == i + 1 ? 1 : 0);
            }
        }
        FreeShelf x = new FreeShelf();
        is("no model 5", x.model(5), BAD);
        is("no model -1", x.model(-1), BAD);
        is("none at first", x.model(4), 0);
        is("model 4", x.model(0), 4);
    }

    private static void threeMeanings() {
        FreeShelf x = routines(CELL);
        x.call(0, PUT, 7);
        x.call(0, GET, 7);
        for (int what = 0; what < 3; what++) {
            x.means(GET, what);
            choices(x, 0, 0, 0, 0, 0, 0);
            is("second call means " + what, x.agrees(), 1);
        }
        x.means(GET, 2);
        // Of the first call: nothing leaves 0 in the cell, and so does a get, which must answer 0.
        for (int what = 0; what < 3; what++) {
            x.means(PUT, what);
            choices(x, 0, 0, 0, 0, 0, 0);
            is("first call means " + what, x.agrees(), what == 1 ? 1 : 0);
        }
        is("no meaning 3", x.means(0, 3), BAD);
        is("no meaning -1", x.means(0, -1), BAD);
    }

    private static void putAdds() {
        for (int model = STACK; model <= QUEUE; model++) {
            is("the lowest", agreeing(model, PUT, -99, GET, -99), 1);
            is("the greatest", agreeing(model, PUT, 99, GET, 99), 1);
            is("0 is not nothing", agreeing(model, PUT, 0, GET_NONE, 0), 0);
            is("the same twice", agreeing(model, PUT, 5, PUT, 5, GET, 5, GET, 5, GET_NONE, 0), 1);
            is("any answer", agreeing(model, PUT_NONE, 5, GET, 5), 1);
            is("any answer", agreeing(model, PUT_MORE, 5, GET, 5), 1);
            is("not its answer", agreeing(model, PUT_MORE, 5, GET, 8), 0);
        }
    }

    private static void sum() {
        is("0 at first", agreeing(SUM, GET, 0), 1);
        is("not nothing", agreeing(SUM, GET_NONE, 0), 0);
        is("the first put", agreeing(SUM, PUT, -99), 1);
        is("another answer", agreeing(SUM, PUT_MORE, 1), 0);
        is("no answer", agreeing(SUM, PUT_NONE, 1), 0);
        is("the second put", agreeing(SUM, PUT, 3, PUT_MORE, 4), 1);
        is("its argument alone", agreeing(SUM, PUT, 3, PUT, 4), 0);
        is("down to 0 again", agreeing(SUM, PUT, 3, PUT_MORE, -3, PUT, 9, GET, 9), 1);
        // A sum beyond the range of numbers is kept as it is.
        is("198 is not 99", agreeing(SUM, new int[] {PUT, 99, PUT, 99}, GET, 99), 0);
        is("198 - 99 - 98", agreeing(SUM, new int[] {PUT, 99, PUT, 99, PUT, -99, PUT, -98}, GET, 1), 1);
        is("-198 + 99 + 98", agreeing(SUM, new int[] {PUT, -99, PUT, -99, PUT, 99, PUT, 98}, GET, -1), 1);
    }

    private static void cell() {
        is("0 at first", agreeing(CELL, GET, 0), 1);
        is("not nothing", agreeing(CELL, GET_NONE, 0), 0);
        is("the argument", agreeing(CELL, PUT, -99, GET, -99, GET, -99), 1);
        is("the latest", agreeing(CELL, PUT, 4, PUT, 99, GET, 99), 1);
        is("not an older one", agreeing(CELL, PUT, 4, PUT, 5, GET, 4), 0);
        is("not the sum", agreeing(CELL, PUT, 4, PUT, 5, GET, 9), 0);
        is("0 again", agreeing(CELL, PUT, 4, PUT, 0, GET, 0), 1);
        is("any answer", agreeing(CELL, PUT_NONE, 4, GET, 4), 1);
        is("any answer", agreeing(CELL, PUT_MORE, 4, GET, 4), 1);
        is("not its answer", agreeing(CELL, PUT_MORE, 4, GET, 7), 0);
    }

    private static void getRemoves() {
        for (int model = STACK; model <= QUEUE; model++) {
            is("nothing", agreeing(model, GET_NONE, 0), 1);
            is("nothing is not 0", agreeing(model, GET, 0), 0);
            is("nothing twice", agreeing(model, GET_NONE, 0, GET_NONE, 0, PUT, 1, GET, 1, GET_NONE, 0), 1);
            is("not twice", agreeing(model, PUT, 1, GET, 1, GET, 1), 0);
            is("something is there", agreeing(model, PUT, 1, GET_NONE, 0), 0);
            boolean last = model == STACK;
            is("two", agreeing(model, PUT, 1, PUT, 2, GET, last ? 2 : 1, GET, last ? 1 : 2, GET_NONE, 0), 1);
            is("the wrong way", agreeing(model, PUT, 1, PUT, 2, GET, last ? 1 : 2), 0);
            is("in turns", agreeing(model, PUT, 1, PUT, 2, GET, last ? 2 : 1, PUT, 3, GET, 3 - (last ? 0 : 1)), 1);
            // As full as it can get: four start calls and five puts, and one get; or four and six gets.
            int[] starts = {PUT, 1, PUT, 2, PUT, 3, PUT, 4};
            is("ten", agreeing(model, starts, PUT, 5, PUT, 6, PUT, 7, PUT, 8, PUT, 9, GET, last ? 9 : 1), 1);
            is("ten", agreeing(model, starts, PUT, 5, PUT, 6, PUT, 7, PUT, 8, PUT, 9, PUT, 10), 1);
            is("four gets", agreeing(model, starts, GET, last ? 4 : 1, GET, last ? 3 : 2, GET, last ? 2 : 3,
                GET, last ? 1 : 4, GET_NONE, 0, GET_NONE, 0), 1);
            is("a fifth", agreeing(model, starts, GET, last ? 4 : 1, GET, last ? 3 : 2, GET, last ? 2 : 3,
                GET, last ? 1 : 4, GET, last ? 1 : 4), 0);
        }
    }

    private static void getSumOrCell() {
        is("the sum", agreeing(SUM, PUT, 3, GET, 3, GET, 3), 1);
        is("not the sum", agreeing(SUM, PUT, 3, GET, 2), 0);
        is("-100 is not the sum", agreeing(SUM, PUT, 3, GET_NONE, 0), 0);
        is("the content", agreeing(CELL, PUT, 3, GET, 3, GET, 3), 1);
        is("not the content", agreeing(CELL, PUT, 3, GET, 4), 0);
        is("-100 is not the content", agreeing(CELL, PUT, 3, GET_NONE, 0), 0);
        is("start calls", agreeing(SUM, new int[] {PUT, 9, PUT, 8}, GET, 17), 1);
        is("start calls", agreeing(CELL, new int[] {PUT, 9, PUT, 8}, GET, 8), 1);
    }

    private static void noMeaning() {
        for (int model = 0; model < 5; model++) {
            is("any answers", agreeing(model, MEANS_NONE, 7, MEANS_NONE, -99, MEANS_NONE, 0), 1);
            boolean rest = model == STACK || model == QUEUE;
            is("no effect", agreeing(model, MEANS_NONE, 7, rest ? GET_NONE : GET, 0), 1);
            is("no effect behind", agreeing(model, PUT, 5, MEANS_NONE, 7, GET, 5), 1);
            is("all the same", agreeing(model, PUT, 5, MEANS_NONE, 7, GET, 7), model == 0 ? 1 : 0);
        }
    }

    private static void startCallsFirst() {
        is("in their order", agreeing(QUEUE, new int[] {PUT, 1, PUT, 2}, GET, 1, GET, 2), 1);
        is("in their order", agreeing(STACK, new int[] {PUT, 1, PUT, 2}, GET, 2, GET, 1), 1);
        is("a get among them", agreeing(QUEUE, new int[] {PUT, 1, PUT, 2, GET, 77, PUT, 3}, GET, 2, GET, 3), 1);
        is("a get before them", agreeing(QUEUE, new int[] {GET, 1, PUT, 2}, GET, 2), 1);
        is("any answer of a put", agreeing(SUM, new int[] {PUT_NONE, 4, PUT_MORE, 5}, GET, 9), 1);
        is("any answer of a get", agreeing(SUM, new int[] {PUT, 4, GET, 5}, GET, 4), 1);
        is("without meaning", agreeing(CELL, new int[] {PUT, 4, MEANS_NONE, 5}, GET, 4), 1);
        is("before all others", agreeing(CELL, new int[] {PUT, 4}, PUT, 5, GET, 4), 0);
        is("a start call keeps the moments without one", noMomentOfStart(), 1);
    }

    private static int noMomentOfStart() {
        FreeShelf x = routines(QUEUE);
        Shelf.routine(x, PUT_MORE, act(RETURN, 0));
        x.call(3, PUT_MORE, 4);
        x.call(0, GET, 4);
        choices(x, 0, 0, 0);
        return x.keeps();
    }

    private static void errorsDoNotAgree() {
        for (int model = 0; model < 5; model++) {
            FreeShelf x = routines(model);
            Shelf.routine(x, 3, act(FENCE), act(LET, 0));
            x.call(0, MEANS_NONE, 1);
            x.call(2, 3, 1);
            choices(x, 0, 0, 0, 2);
            is("no end", x.agrees(), NO);
            x.step(2);
            is("an error", x.agrees(), 0);
            if (model != 0) is("an error", x.keeps(), 0);
            x.explore();
            holds("ends", x.explored(1) > 0);
            is("none agrees", x.explored(2), x.explored(1));
            is("no results", x.answers(), 0);
        }
        is("no errors and no model", agreeing(0, GET, 5, PUT, 7, GET_NONE, 0), 1);
    }

    /** A put of 1 by thread 0 and a get by thread 1 that answers 1, or -100, from a queue, in three steps each. */
    private static int overlapping(int get, int... order) {
        FreeShelf x = routines(QUEUE);
        x.call(0, PUT, 1);
        x.call(1, get, 1);
        choices(x, order);
        return x.agrees();
    }

    private static void afterThoseThatWereOver() {
        is("put before get", overlapping(GET, 0, 0, 0, 1, 1, 1), 1);
        is("not the other way", overlapping(GET_NONE, 0, 0, 0, 1, 1, 1), 0);
        is("get before put", overlapping(GET_NONE, 1, 1, 1, 0, 0, 0), 1);
        is("not the other way", overlapping(GET, 1, 1, 1, 0, 0, 0), 0);
        is("the put begins within", overlapping(GET, 1, 1, 0, 1, 0, 0), 1);
        is("the put begins within", overlapping(GET_NONE, 1, 1, 0, 1, 0, 0), 1);
        is("the get begins within", overlapping(GET, 0, 0, 1, 0, 1, 1), 1);
        is("the get begins within", overlapping(GET_NONE, 0, 0, 1, 0, 1, 1), 1);
        is("the get is over first", overlapping(GET, 0, 1, 1, 1, 0, 0), 1);
        // The calls of a thread come after one another; six calls, of which the last one in time must come first.
        is("one thread", agreeing(STACK, GET, 1, PUT, 1), 0);
        FreeShelf x = routines(STACK);
        int[] gets = {1, 2, 3, 4, 5};
        for (int i = 0; i < 3; i++) x.call(0, PUT, gets[i]);
        for (int i = 2; i >= 0; i--) x.call(1, GET, gets[i]);
        choices(x, 1, 0, 0, 0, 0, 0, 0, 0, 0, 0, 1, 1, 1, 1, 1, 1, 1, 1);
        is("the first get lasts until all puts are over", x.agrees(), 1);
        choices(x, 1, 0, 0, 0, 0, 0, 0, 1, 1, 0, 0, 0, 1, 1, 1, 1, 1, 1);
        is("it is over before the third put begins", x.agrees(), 0);
        choices(x, 1, 0, 0, 0, 0, 0, 0, 0, 1, 1, 0, 0, 1, 1, 1, 1, 1, 1);
        is("the third put had begun", x.agrees(), 1);
    }

    private static void momentsOfOperations() {
        int[] ops = {READ, LOOK, WRITE, LAY, SWAP, TURN, ADD, FENCE, TAKE, LET, GUARD, ENTER, LEAVE, RETURN, SET, BLANK,
            COPY, MARK, GO, SAME, PLUS};
        for (int op : ops) {
            FreeShelf x = new FreeShelf();
            x.act(5, op, 0, 0, 0);
            is("no moment at first", x.told(5, 0, 4), 0);
            is("op " + op, x.moment(5, 0, true), op <= 6 ? 0 : BAD);
            is("op " + op, x.told(5, 0, 4), op <= 6 ? 1 : 0);
            is("op " + op, x.moment(5, 0, false), op <= 6 ? 1 : BAD);
        }
        int[][] acts = {act(READ, 2, 0), act(LOOK, 2, 1, 0), act(WRITE, 0, 0), act(LAY, 1, 0, 0), act(SWAP, 0, 2, 2),
            act(TURN, 1, 2, 2), act(ADD, 7, 0)};
        for (int[] row : acts) {
            FreeShelf x = Shelf.with(0, act(TAKE, 1), row, act(FENCE), act(RETURN, 0));
            x.model(SUM);
            choices(x, 0, 0, 0, 0);
            is("no moment", x.keeps(), 0);
            x.moment(0, 1, true);
            choices(x, 0, 0, 0, 0);
            is("a moment of op " + row[0], x.keeps(), 1);
        }
    }

    /** Two puts of 1 in a sum, which add and then go through two moments that are so often repeated. */
    private static FreeShelf readers(boolean atAdd, boolean later) {
        FreeShelf x = Shelf.with(1, act(ADD, 0, 1), act(READ, 1, 7), act(READ, 1, 7), act(RETURN, 5));
        x.means(0, 1);
        x.model(SUM);
        x.moment(0, 0, atAdd);
        x.moment(0, 2, later);
        x.call(1, 0, 1);
        return x;
    }

    private static int kept(FreeShelf x, int... order) {
        choices(x, order);
        return x.keeps();
    }

    private static void lastTime() {
        int[] firstIsLast = {0, 1, 1, 1, 1, 0, 0, 0};
        is("the add alone", kept(readers(true, false), firstIsLast), 1);
        is("the read alone", kept(readers(false, true), firstIsLast), 0);
        is("both: the last one", kept(readers(true, true), firstIsLast), 0);
        is("both: in order", kept(readers(true, true), 0, 1, 0, 1, 0, 1, 1, 0), 1);
        // The same act again and again: the moment is the last time.
        FreeShelf x = Shelf.with(1, act(ADD, 0, 1), act(READ, 1, 7), act(SAME, 1, 2, 1), act(RETURN, 5));
        Shelf.routine(x, 1, act(WRITE, 7, 0), act(RETURN, 0));
        x.moment(0, 1, true);
        x.moment(1, 0, true);
        x.means(0, 1);
        x.model(SUM);
        x.call(1, 0, 1);
        x.call(2, 1, 0);
        is("once more each", kept(x, 0, 1, 0, 1, 0, 1, 2, 0, 1, 0, 1, 2), 1);
        is("the last time in the other order", kept(x, 0, 1, 0, 1, 0, 1, 2, 1, 0, 0, 1, 2), 0);
        // An act that meets an error is no moment, and the end keeps none then.
        FreeShelf y = Shelf.with(1, act(LOOK, 0, 1, 0));
        y.moment(0, 0, true);
        y.model(SUM);
        is("an error", kept(y, 0), 0);
        FreeShelf z = Shelf.with(1, act(READ, 1, 0), act(LOOK, 0, 1, 0));
        z.call(1, 0, 1);
        z.moment(0, 1, true);
        int none = z.explore();
        z.moment(0, 1, false);
        is("acts with errors have no order", z.explore(), none);
    }

    private static void swapThatFails() {
        for (int op : new int[] {SWAP, TURN}) {
            // A put that swaps nothing for its argument in global 0, or in field 0 of node 0.
            FreeShelf x = new FreeShelf();
            Shelf.routine(x, 1, act(TAKE, 1), act(WRITE, 1, 1), act(RETURN, 1));
            Shelf.routine(x, 0, act(READ, 1, 1), act(op, op == SWAP ? 0 : 1, 2, 0), act(RETURN, 5));
            x.moment(0, 1, true);
            x.means(0, 1);
            x.model(STACK);
            x.call(3, 1, 0);
            x.call(0, 0, 4);
            is("it goes well", kept(x, 0, 0, 0), 1);
            x.call(1, 0, 4);
            is("the second fails", kept(x, 0, 0, 1, 1, 0, 1), 0);
            // From its own value to the same value.
            Shelf.routine(x, 0, act(READ, 1, 1), act(op, op == SWAP ? 0 : 1, 2, 2), act(RETURN, 5));
            x.moment(0, 1, true);
            is("the same value counts", kept(x, 0, 0, 1, 1, 0, 1), 1);
            x.moment(0, 1, false);
            is("no moment", kept(x, 0, 0, 1, 1, 0, 1), 0);
            // A moment before, and a swap that fails later: the first one stays.
            Shelf.routine(x, 0, act(READ, 1, 1), act(op, op == SWAP ? 0 : 1, 3, 0), act(RETURN, 5));
            x.moment(0, 0, true);
            x.moment(0, 1, true);
            x.call(2, 0, 9);
            is("the one before", kept(x, 0, 1, 2, 0, 1, 2, 2, 1, 0), 1);
        }
    }

    private static void whenTheWriteIsDone() {
        for (int op : new int[] {WRITE, LAY}) {
            // A put of a cell whose moment is a delayed write, and a get whose moment is a read.
            FreeShelf x = new FreeShelf();
            Shelf.routine(x, 0, act(READ, 1, 1), op == WRITE ? act(WRITE, 0, 0) : act(LAY, 1, 0, 0), act(RETURN, 0));
            Shelf.routine(x, 1, act(READ, 1, 1), op == WRITE ? act(READ, 2, 0) : act(LOOK, 2, 1, 0), act(RETURN, 2));
            Shelf.routine(x, 2, act(TAKE, 1), act(WRITE, 1, 1), act(SET, 0, 0), act(LAY, 1, 0, 0), act(WRITE, 0, 0),
                act(RETURN, 0));
            x.means(0, 1);
            x.means(1, 2);
            x.moment(0, 1, true);
            x.moment(1, 1, true);
            x.model(CELL);
            x.late(true);
            x.call(3, 2, 0);
            x.call(0, 0, 5);
            x.call(1, 1, 0);
            is("read before the write", kept(x, 0, 1, 1, 0, 3, 0, 1), 1);
            is("read when it has come", kept(x, 0, 1, 0, 3, 1, 0, 1), 1);
            is("read before it comes", kept(x, 0, 1, 0, 1, 3, 0, 1), 0);
            is("it agrees all the same", x.agrees(), 1);
            x.late(false);
            is("ordered memory", kept(x, 0, 1, 0, 1, 0, 1), 1);
        }
    }

    private static void eachCallHasAMoment() {
        FreeShelf x = routines(CELL);
        x.call(0, PUT, 5);
        x.call(1, GET, 5);
        x.call(2, MEANS_NONE, 5);
        int[] order = {0, 0, 0, 1, 1, 1, 2, 2, 2};
        is("all have one", kept(x, order), 1);
        for (int r : new int[] {PUT, GET, MEANS_NONE}) {
            x.moment(r, 0, false);
            is("without that of routine " + r, kept(x, order), 0);
            is("it agrees", x.agrees(), 1);
            x.moment(r, 0, true);
        }
        is("all again", kept(x, order), 1);
        FreeShelf y = routines(CELL);
        for (int i = 0; i < 6; i++) y.call(i / 2, PUT, i);
        is("six", kept(y, 0, 0, 0, 1, 1, 1, 2, 2, 2, 0, 0, 0, 1, 1, 1, 2, 2, 2), 1);
        y.clear();
        for (int i = 0; i < 5; i++) y.call(i / 2, PUT, i);
        Shelf.routine(y, GET, act(FENCE), act(READ, 1, 0), act(RETURN, 1));
        y.call(2, GET, 0);
        is("the sixth has none", kept(y, 0, 0, 0, 1, 1, 1, 2, 2, 2, 0, 0, 0, 1, 1, 1, 2, 2, 2), 0);
        FreeShelf none = routines(0);
        none.call(0, PUT, 5);
        is("no model", kept(none, 0, 0, 0), NO);
    }

    private static void orderOfMoments() {
        int[] puts = {0, 1};
        for (int first : puts) {
            // Both begin; one has its moment first; the get in the third thread comes after both.
            FreeShelf x = new FreeShelf();
            Shelf.routine(x, 0, act(FENCE), act(ADD, 7, 0), act(RETURN, 0));
            x.moment(0, 1, true);
            Shelf.routine(x, 1, act(FENCE), act(ADD, 7, 0), act(RETURN, 0));
            x.moment(1, 1, true);
            x.means(0, 1);
            x.means(1, 2);
            x.model(CELL);
            x.call(0, 0, 10);
            x.call(1, 0, 11);
            x.call(2, 1, 11 - first);
            is("the other one's", kept(x, 0, 1, first, 1 - first, 0, 1, 2, 2, 2), 1);
            is("agrees", x.agrees(), 1);
            is("the wrong one's", kept(x, 0, 1, 1 - first, first, 0, 1, 2, 2, 2), 0);
            is("agrees all the same", x.agrees(), 1);
        }
        // Six calls in the order of their moments: each put answers the sum.
        FreeShelf y = Shelf.with(1, act(ADD, 0, 1), act(FENCE), act(RETURN, 5));
        y.moment(0, 0, true);
        y.means(0, 1);
        y.model(SUM);
        y.call(0, 0, 1);
        for (int t = 1; t < 3; t++) for (int i = 0; i < 2; i++) y.call(t, 0, 1);
        is("six", kept(y, 2, 1, 0, 0, 1, 1, 0, 2, 2, 0, 2, 0, 1, 0, 2, 1, 1, 2), 1);
        is("the last one of all", y.answer(1, 1) + y.answer(2, 1), 11);
    }

    private static void state0() {
        FreeShelf x = Shelf.with(3, act(ADD, 0, 1), act(RETURN, 5));
        is("three states", x.explore(), 3);
        is("go", x.go(0), 0);
        is("nothing is done", x.word(0, 0), 0);
        x.call(3, 0, 3);
        x.call(3, 0, 3);
        is("three states", x.explore(), 3);
        is("go", x.go(0), 0);
        is("the start calls are done", x.word(0, 1), 2);
        is("no call is begun", x.thread(0, 1), 0);
        is("it has no walk", x.walk(0, 0), NONE);
    }

    private static void ascending() {
        FreeShelf x = new FreeShelf();
        Shelf.routine(x, 0, act(WRITE, 0, 0), act(FENCE), act(GO, 1));
        for (int t = 0; t < 3; t++) x.call(t, 0, t);
        x.late(true);
        x.explore();
        for (int c = 0; c < 3; c++) is("choice " + c, x.next(0, c), 1 + c);
        for (int c = 3; c < 6; c++) is("not possible", x.next(0, c), NONE);
        // State 1: thread 0 has written. A fence lets the write come and goes round, so that both lead to the same.
        is("the fence", x.next(1, 0), 4);
        is("thread 1", x.next(1, 1), 5);
        is("thread 2", x.next(1, 2), 6);
        is("the write comes", x.next(1, 3), 4);
        is("not possible", x.next(1, 4), NONE);
        is("from state 2: thread 0 is known", x.next(2, 0), 5);
        is("thread 1", x.next(2, 1), 7);
        is("thread 2", x.next(2, 2), 8);
        is("the write of thread 1", x.next(2, 4), 7);
        is("from state 3", x.next(3, 2), 9);
        is("the last of its choices", x.next(3, 5), 9);
        is("from state 4", x.next(4, 1), 10);
    }

    /** A thread that goes through so many states: 15 times 99, and some more. */
    static FreeShelf line(int states) {
        FreeShelf x = Shelf.with(0, join(rows(act(SET, 1, 15), act(SET, 2, 99), act(FENCE), act(PLUS, 2, -1),
            act(SAME, 2, 0, 6), act(GO, 2), act(PLUS, 1, -1), act(SAME, 1, 0, 9), act(GO, 1)),
            times(states - 1487, act(FENCE)), rows(act(RETURN, 0))));
        return x;
    }

    private static void atMost1500() {
        FreeShelf x = line(1499);
        is("1499", x.explore(), 1499);
        is("complete", x.explored(7), 0);
        x = line(1500);
        is("1500", x.explore(), 1500);
        is("complete", x.explored(7), 0);
        is("1500", x.explored(0), 1500);
        is("its end", x.first(6), 1499);
        is("pairs", x.explored(4), 1499);
        is("an answer", x.answers(), 1);
        x = line(1501);
        is("1501", x.explore(), SPENT);
        is("incomplete", x.explored(7), 1);
        is("1500 are kept", x.explored(0), 1500);
        is("no end", x.explored(1), 0);
        is("no end", x.first(6), NONE);
        is("pairs", x.explored(4), 1499);
        is("the last leads to none that is kept", x.next(1499, 0), NONE);
        is("the walk to the last", x.walk(1499, 1498), 0);
        is("no longer", x.walk(1499, 1499), NONE);
        is("no state 1500", x.walk(1500, 0), NO);
        is("no answers", x.answers(), 0);
    }

    private static void allKeptOnes() {
        // Thread 1 goes round in one state, as soon as it has begun.
        FreeShelf x = line(1501);
        Shelf.routine(x, 1, act(FENCE), act(GO, 0));
        x.call(1, 1, 0);
        is("too many", x.explore(), SPENT);
        // States 1, 3, 5 and so on are those before it has begun, and 2, 4, 6 and so on those after that.
        int round = 0;
        int lost = 0;
        for (int s = 0; s < 1500; s++) {
            if (x.next(s, 1) == s) round++;
            if (x.next(s, 1) == NONE) lost++;
        }
        is("thread 1 goes round", round, 749);
        is("also in a state that is gone through when there is no room", x.next(1498, 1), 1498);
        is("states 1497 and 1499 lead to none that is kept", lost, 2);
        is("where there was still room", x.next(1497, 0), 1499);
        is("where there was none", x.next(1497, 1), NONE);
        int pairs = 0;
        for (int s = 0; s < 1500; s++) for (int c = 0; c < 6; c++) if (x.next(s, c) != NONE) pairs++;
        is("pairs", x.explored(4), pairs);
    }

    private static void walks() {
        FreeShelf x = Shelf.with(1, act(WRITE, 0, 0), act(FENCE), act(RETURN, 0));
        x.call(1, 0, 2);
        x.call(2, 0, 3);
        x.late(true);
        int states = x.explore();
        int[] from = new int[states];
        int[] by = new int[states];
        for (int s = states - 1; s >= 0; s--) {
            for (int c = 5; c >= 0; c--) {
                int to = x.next(s, c);
                if (to == NONE) continue;
                from[to] = s;
                by[to] = c;
            }
        }
        for (int s = 1; s < 40; s++) {
            int length = 0;
            for (int on = s; on != 0; on = from[on]) length++;
            is("not longer", x.walk(s, length), NONE);
            int on = s;
            for (int i = length - 1; i >= 0; i--) {
                is("choice " + i + " to " + s, x.walk(s, i), by[on]);
                on = from[on];
            }
        }
    }

    private static void noCallOrError() {
        FreeShelf x = Shelf.with(0, act(FENCE), act(GO, 0));
        x.explore();
        is("for ever, but not begun in state 0", x.first(3), 1);
        FreeShelf y = Shelf.with(0, act(LET, 0));
        y.explore();
        is("an error at once", y.first(3), NONE);
        y = Shelf.with(0, act(FENCE), act(LET, 0));
        y.explore();
        is("an error later", y.first(3), NONE);
        y = Shelf.with(0, act(RETURN, 0));
        y.call(0, 1, 0);
        y.explore();
        is("a call that is missing", y.first(3), NONE);
        FreeShelf z = Shelf.with(0, act(RETURN, 0));
        Shelf.routine(z, 1, act(FENCE), act(GO, 0));
        z.call(0, 1, 0);
        z.explore();
        is("the second call is begun in state 2", z.first(3), 2);
    }

    private static void finish60Steps() {
        for (int n = 59; n <= 62; n++) {
            FreeShelf x = new FreeShelf();
            Shelf.countDown(x, 0);
            x.call(1, 0, n);
            x.explore();
            is("over in step " + n + " after the first", x.first(3), n <= 60 ? NONE : 1);
            x.tear(0, 5);
            x.act(0, LET, 1, 0, 0);
            x.explore();
            is("an error in step " + n + " after the first", x.first(3), n <= 60 ? NONE : 1);
            is("which is met", x.first(2), n + 1);
        }
        // Thread 0 waits for thread 1 to write, and for its write to come.
        FreeShelf y = Shelf.with(0, act(READ, 1, 0), act(SAME, 1, 2, 0), act(RETURN, 1));
        Shelf.routine(y, 1, act(WRITE, 0, 0), act(RETURN, 0));
        y.call(1, 1, 5);
        y.late(true);
        y.explore();
        is("waits", y.first(3), 1);
        y.call(3, 1, 4);
        y.explore();
        is("need not wait", y.first(3), NONE);
        // Its own write comes by no step of its own: it goes on without.
        FreeShelf z = Shelf.with(5, act(WRITE, 0, 0), act(RETURN, 0));
        z.late(true);
        z.explore();
        is("return lets it come", z.first(3), NONE);
        // A second call is another one.
        FreeShelf w = Shelf.with(0, act(FENCE), act(RETURN, 0));
        Shelf.routine(w, 1, act(FENCE), act(GO, 0));
        w.call(0, 1, 0);
        w.explore();
        is("this call is over", w.first(3), 3);
    }

    private static void cycles() {
        FreeShelf x = Shelf.with(0, act(FENCE), act(GO, 0));
        x.explore();
        is("one choice", x.first(4), 1);
        x = Shelf.with(0, act(FENCE), act(FENCE), act(FENCE), act(GO, 1));
        x.explore();
        is("two choices", x.first(4), 1);
        is("to the other", x.next(1, 0), 2);
        is("and back", x.next(2, 0), 1);
        x = Shelf.with(0, act(ADD, 0, 1), act(GO, 0));
        x.explore();
        is("only the last state", x.first(4), 99);
        x = Shelf.with(0, act(RETURN, 0));
        x.call(0, 0, 0);
        x.call(0, 0, 0);
        x.explore();
        is("calls that end", x.first(4), NONE);
        // A circle of 150 and more states, of which some are not kept in a larger program.
        x = line(1502);
        x.tear(0, 24);
        x.act(0, GO, 0, 0, 0);
        is("the last state of the circle is not kept", x.explore(), SPENT);
        is("no cycle", x.first(4), NONE);
        is("no end", x.explored(1), 0);
        x = line(1501);
        x.tear(0, 23);
        x.act(0, GO, 0, 0, 0);
        is("the circle is kept whole", x.explore(), 1500);
        is("all but the first", x.first(4), 1);
        is("back to the first of them", x.next(1499, 0), 1);
        // To write and to let the write come, from the state on in which the first write has come.
        FreeShelf y = Shelf.with(0, act(WRITE, 0, 0), act(GO, 0));
        y.late(true);
        y.explore();
        is("write and come", y.first(4), 3);
        is("the first write has come", y.next(1, 3), 3);
        // Thread 1 goes round as soon as it has begun, also after thread 0 has met an error.
        FreeShelf z = Shelf.with(0, act(LET, 0));
        Shelf.routine(z, 1, act(FENCE), act(GO, 0));
        z.call(1, 1, 0);
        z.explore();
        is("thread 1 alone", z.first(4), 2);
        is("to itself", z.next(2, 1), 2);
    }

    private static void numbersOfErrors() {
        is("BAD", FreeShelf.BAD, -1);
        is("NO", FreeShelf.NO, -2);
        is("FULL", FreeShelf.FULL, -3);
        is("NONE", FreeShelf.NONE, -4);
        is("SPENT", FreeShelf.SPENT, -5);
        FreeShelf x = new FreeShelf();
        is("out of its range", x.manner(5), FreeShelf.BAD);
        is("no such thing", x.moment(0, 0, true), FreeShelf.BAD);
        is("not possible", x.begin(), FreeShelf.NO);
        for (int i = 0; i < 3; i++) x.call(0, 0, 0);
        is("no room", x.call(0, 0, 0), FreeShelf.FULL);
        is("there is none", x.told(0, -1, 0), FreeShelf.NONE);
        is("spent", line(1501).explore(), FreeShelf.SPENT);
    }

    private static void firstNamed() {
        FreeShelf x = new FreeShelf();
        for (int i = 0; i < 30; i++) x.act(0, FENCE, 0, 0, 0);
        is("act: BAD before FULL, op", x.act(0, 14, 0, 0, 0), BAD);
        is("act: BAD before FULL, a number", x.act(0, TAKE, 6, 0, 0), BAD);
        for (int i = 0; i < 3; i++) x.call(0, 0, 0);
        is("call: BAD before FULL, routine", x.call(0, 6, 0), BAD);
        is("call: BAD before FULL, argument", x.call(0, 0, 100), BAD);
        for (int i = 0; i < 4; i++) x.call(3, 5, 0);
        is("call: BAD before FULL, start call", x.call(3, 0, -100), BAD);
        // Without a run.
        is("step", x.step(6), BAD);
        is("may", x.may(-1), BAD);
        is("run", x.run(0), BAD);
        is("word", x.word(20, 0), NO_NUMBER);
        is("local", x.local(0, 0, 4), NO_NUMBER);
        is("node", x.node(6), BAD);
        is("thread", x.thread(0, 8), BAD);
        is("answer", x.answer(0, 3), NO_NUMBER);
        // Without an exploration.
        is("explored", x.explored(8), BAD);
        is("first", x.first(-1), BAD);
        is("walk", x.walk(0, -1), BAD);
        is("next", x.next(0, 6), BAD);
        for (int i = 0; i < 12; i++) is("an error of a start call", x.explore(), -11);
        is("explore: FULL before the error", x.explore(), FULL);
        int calls = x.clear();
        is("seven calls", calls, 7);
        is("explore: NO before FULL", x.explore(), NO);
        x.call(3, 5, 0);
        is("begin: NO before the error", x.begin(), NO);
        FreeShelf y = Shelf.with(0, act(FENCE), act(GO, 0));
        y.begin();
        y.run(100);
        is("step: NO before FULL", y.step(1), NO);
        is("step: BAD before FULL", y.step(6), BAD);
        is("step: FULL", y.step(0), FULL);
        FreeShelf z = Shelf.with(0, act(FENCE));
        choices(z, 0);
        is("keeps: no end and no model", z.keeps(), NO);
        z.explore();
        is("walk: BAD before NO", z.walk(99, -1), BAD);
        is("next: BAD before NO", z.next(99, -1), BAD);
    }

    private static void noneLast() {
        FreeShelf x = new FreeShelf();
        is("told: no such routine", x.told(6, -1, 0), NO_NUMBER);
        is("told: what", x.told(0, -1, 2), NO_NUMBER);
        is("answer: no run", x.answer(0, 0), NO_RUN);
        is("thread: no run", x.thread(0, 7), NO);
        is("first: no exploration", x.first(0), NO);
        is("walk: no exploration", x.walk(0, 0), NO);
        is("next: no exploration", x.next(0, 0), NO);
        x.call(0, 0, 0);
        x.explore();
        x.begin();
        is("answer: no such thread", x.answer(3, 0), NO_NUMBER);
        is("answer: none", x.answer(2, 0), NONE);
        is("thread: none", x.thread(2, 7), NONE);
        is("thread: out of range", x.thread(3, 7), BAD);
        is("first: none", x.first(4), NONE);
        is("walk: negative", x.walk(0, -1), BAD);
        is("walk: no such state", x.walk(2, 0), NO);
        is("walk: none", x.walk(0, 0), NONE);
        is("next: no such state", x.next(2, 5), NO);
        is("next: no such choice", x.next(0, 6), BAD);
        is("next: none", x.next(0, 5), NONE);
    }

    /** Calls that are refused, whatever has been done before. */
    private static void refusedAlways(FreeShelf x) {
        int[] got = {x.act(6, 0, 0, 0, 0), x.act(0, 27, 0, 0, 0), x.act(0, READ, 6, 0, 0), x.tear(0, 31), x.tear(-1, 0),
            x.tear(0, -2), x.means(0, 3), x.means(6, 0), x.moment(0, 30, true), x.moment(0, 1, true), x.call(4, 0, 0),
            x.call(0, 6, 0), x.call(0, 0, 100), x.manner(5), x.manner(-1), x.model(5), x.model(-1), x.step(6),
            x.step(-1), x.may(6), x.run(0), x.run(101), x.node(6), x.thread(3, 0), x.thread(0, 8), x.explored(8),
            x.first(-1), x.walk(0, -1), x.next(0, 6)};
        for (int answer : got) is("refused", answer, BAD);
        int[] numbers = {x.told(6, 0, 0), x.told(0, 30, 0), x.told(0, 0, 5), x.word(20, 0), x.word(0, 4),
            x.local(3, 0, 0), x.local(0, 6, 0), x.answer(3, 0), x.answer(0, 3)};
        for (int answer : numbers) is("refused", answer, NO_NUMBER);
    }

    private static void errorsChangeNothing() {
        FreeShelf x = Shelf.with(5, act(WRITE, 0, 0), act(FENCE), act(GO, 0));
        x.moment(0, 0, true);
        x.means(0, 1);
        x.manner(3);
        x.late(true);
        x.model(2);
        for (int i = 0; i < 2; i++) x.call(0, 0, 6);
        for (int i = 0; i < 3; i++) x.call(1, 0, 7);
        for (int i = 0; i < 12; i++) x.explore();
        x.begin();
        x.run(100);
        String run = run(x);
        String found = exploration(x);
        String acts = routine(x, 0);
        refusedAlways(x);
        is("full", x.call(1, 0, 0), FULL);
        is("full", x.call(2, 0, 0), FULL);
        is("full", x.step(0), FULL);
        is("not possible", x.step(2), NO);
        is("full", x.explore(), FULL);
        is("no end", x.agrees() + x.keeps(), 2 * NO);
        is("no such state", x.go(1500), NO);
        is("no such state", x.walk(-1, 0) + x.next(-1, 0), 2 * NO);
        holds("the run", run(x).equals(run));
        holds("the exploration", exploration(x).equals(found));
        holds("the routine", routine(x, 0).equals(acts));
        is("routine 1", x.told(1, -1, 0), NONE);
        is("the manner", x.manner(0), 3);
        is("the model", x.model(0), 2);
        is("late", x.late(false), 1);
        is("the calls", x.clear(), 6);
        is("no calls", x.begin(), NO);
        holds("the run stays", run(x).equals(run));
        is("no calls", x.explore(), NO);
        holds("the exploration stays", exploration(x).equals(found));
        // Where something else is said: a start call that meets an error ends the run, or the exploration.
        FreeShelf y = Shelf.with(5, act(RETURN, 0));
        y.explore();
        y.begin();
        y.call(3, 1, 0);
        is("an error", y.begin(), -11);
        is("no run", y.may(0), NO);
        is("the exploration stays", y.explored(0), 2);
        is("a run", y.go(1), 1);
        is("an error", y.explore(), -11);
        is("no exploration", y.explored(0), NO);
        is("the run stays", y.answer(0, 0), 5);
    }

    private static void changesLater() {
        FreeShelf x = Shelf.with(5, act(WRITE, 0, 0), act(FENCE), act(RETURN, 0));
        x.moment(0, 0, true);
        x.means(0, 1);
        x.model(CELL);
        x.manner(2);
        x.explore();
        choices(x, 0);
        String found = exploration(x);
        x.tear(0, 0);
        x.act(0, LET, 0, 0, 0);
        x.means(0, 2);
        x.manner(0);
        x.late(true);
        x.model(QUEUE);
        x.clear();
        x.call(2, 0, 9);
        x.call(3, 5, 9);
        holds("the exploration", exploration(x).equals(found));
        is("the calls", x.may(2), 0);
        is("the acts", x.step(0), 2);
        is("the acts", x.step(0), 3);
        is("the argument", x.answer(0, 0), 5);
        is("the model", x.agrees(), 1);
        is("the moments", x.keeps(), 1);
        is("the exploration's program", x.go(0), 0);
        is("its memory", x.step(0), 1);
        is("its memory", x.thread(0, 4), 0);
        is("its manner", x.word(0, 3), 1);
        is("now", x.begin(), -11);
        is("now", x.explore(), -11);
        x.tear(5, 0);
        x.act(5, RETURN, 0, 0, 0);
        choices(x, 2);
        is("now", x.thread(2, 3), 2);
        is("now", x.explore(), 2);
        is("now", x.next(0, 2), 1);
    }
}
