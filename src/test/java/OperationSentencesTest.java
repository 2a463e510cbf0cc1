import java.io.IOException;

/** The sentences of the description that name a boundary case: values, words, routines, operations, errors of threads. */
public final class OperationSentencesTest extends Sentences {
    public static void main(String[] args) throws IOException {
        values();
        wordsAndRoutines();
        memoryOperations();
        nodeOperations();
        ownOperations();
        errors();
        close("OperationSentencesTest", args);
    }

    private static void values() {
        sentence("An object is used for at most 512 calls after it has been made", OperationSentencesTest::all512Calls);
        sentence("A value is nothing, a number (-99 to 99), or a node (0 to 5).", OperationSentencesTest::kinds);
        sentence("Numbers and nodes have a mark, 0 or 1; unless something else is said it is 0.",
            OperationSentencesTest::marks);
        sentence("Two values are alike if they are the same, including the mark.", OperationSentencesTest::alike);
        sentence("\"Kept in range\" means that a number less than -99 becomes -99, and one greater than 99 becomes 99.",
            OperationSentencesTest::keptInRange);
    }

    private static void wordsAndRoutines() {
        sentence("Words are the globals 0 to 7, and two fields, 0 and 1, of each node.", OperationSentencesTest::words);
        sentence("A word holds a value (nothing at first) and a count, 0 to 3 (0 at first).",
            OperationSentencesTest::wordsAtFirst);
        sentence("Only with manner 2 (below) counts change", OperationSentencesTest::countsWithManner2);
        sentence("each time that a word gets a value, its count increases by 1, modulo 4.",
            OperationSentencesTest::countsModulo4);
        sentence("There are six routines, 0 to 5.", OperationSentencesTest::sixRoutines);
        sentence("A routine is missing (at first), or is a sequence of 0 to 30 acts, which are numbered from 0.",
            OperationSentencesTest::missingOr0To30Acts);
        sentence("Each thread has six locals, 0 to 5, which are values", OperationSentencesTest::sixLocals);
        sentence("With each local a count is kept; it is 0 unless something else is said.",
            OperationSentencesTest::localsWithoutCount);
    }

    private static void memoryOperations() {
        sentence("0 read: La = global b; the count of La becomes the present count of this word.",
            OperationSentencesTest::read);
        sentence("1 look: La = field c of the node Lb; the count of La becomes the present count of this word.",
            OperationSentencesTest::look);
        sentence("2 write: global a = Lb.", OperationSentencesTest::write);
        sentence("3 lay: field b of the node La = Lc.", OperationSentencesTest::lay);
        sentence("if the value of global a is alike Lb, and, with manner 2, its count is equal to the count of Lb, then"
            + " global a = Lc, and L5 = 1; otherwise L5 = 0.", OperationSentencesTest::swap);
        sentence("5 turn: the same with field 0 of the node La instead of global a.", OperationSentencesTest::turn);
        sentence("6 add: global a, which must hold a number or nothing (taken as 0), becomes this number plus b, kept in"
            + " range, with mark 0; L5 = this new number.", OperationSentencesTest::add);
    }

    private static void nodeOperations() {
        sentence("8 take: La = the free node with the lowest number", OperationSentencesTest::takeLowest);
        sentence("which is taken then, and whose fields both hold nothing (their counts stay)",
            OperationSentencesTest::takeEmpties);
        sentence("La = nothing, if no node is free.", OperationSentencesTest::takeNone);
        sentence("10 guard: guard a (0 or 1) of the thread becomes the node Lb, or none, if Lb is no node.",
            OperationSentencesTest::guard);
        sentence("11 enter, 12 leave: the thread is inside, with the present epoch, or is not inside any more.",
            OperationSentencesTest::enterAndLeave);
        sentence("Its answer is the number La, 100 if La is a node, or -100 if La is nothing.",
            OperationSentencesTest::answers);
        sentence("The locals of the thread become nothing, its guards none, and it is not inside any more.",
            OperationSentencesTest::afterReturn);
    }

    private static void ownOperations() {
        sentence("20 set: La = the number b. 21 none: La = nothing. 22 copy: La = Lb, with its count.",
            OperationSentencesTest::setNoneCopy);
        sentence("23 mark: the mark of La becomes b (nothing stays as it is; the count of La stays).",
            OperationSentencesTest::markOfNothing);
        sentence("24 go: goes on at act a.", OperationSentencesTest::go);
        sentence("25 same: goes on at act c, if La and Lb are alike.", OperationSentencesTest::same);
        sentence("26 plus: La, which must be a number, becomes this number plus b, kept in range, with mark 0.",
            OperationSentencesTest::plus);
    }

    private static void errors() {
        sentence("A thread can meet an error, by which it stops for ever.", OperationSentencesTest::stopsForEver);
        sentence("The act that meets it has no other effect.", OperationSentencesTest::noOtherEffect);
        sentence("(if several apply to an act, the one that comes first here counts)",
            OperationSentencesTest::severalErrors);
        sentence("1: the node of a local is needed, or the number of a local (plus), and it is nothing",
            OperationSentencesTest::error1);
        sentence("or the routine of the call is missing.", OperationSentencesTest::error1Missing);
        sentence("2: likewise, but the local holds a value of the other kind", OperationSentencesTest::error2);
        sentence("or add with a global that holds a node.", OperationSentencesTest::error2Add);
        sentence("3: there is no act at the place of the thread, when a step needs a memory operation there.",
            OperationSentencesTest::error3);
        sentence("4: look, lay or turn with a node that is free.", OperationSentencesTest::error4);
        sentence("5: let with a node that is free, or released and not free yet.", OperationSentencesTest::error5);
        sentence("6: the 31st own operation of a step.", OperationSentencesTest::error6);
    }

    private static void all512Calls() {
        FreeShelf x = Shelf.with(0, act(ADD, 0, 1), act(GO, 0));
        is("call 5", x.begin(), 1);
        int calls = 5;
        for (int i = 1; i <= 100; i++, calls++) is(x.step(0), i);
        for (int i = 0; i < 12; i++, calls++) is(x.explore(), 100);
        for (; calls < 510; calls++) is(x.word(0, 1), 99);
        is("call 511", x.go(99), 99);
        is("call 512", x.step(0), 100);
        FreeShelf y = new FreeShelf();
        for (int i = 0; i < 511; i++) is(y.act(0, 14, 0, 0, 0), BAD);
        is("call 512 after refused ones", y.act(0, 7, 0, 0, 0), 1);
    }

    private static void kinds() {
        FreeShelf x = after(10, 0, join(rows(act(SET, 1, -99), act(WRITE, 0, 1), act(SET, 1, 99), act(WRITE, 1, 1),
            act(WRITE, 2, 3), act(TAKE, 2), act(WRITE, 3, 2)), times(4, act(TAKE, 2)), rows(act(TAKE, 2))));
        word(x, 0, 1, -99, 0, 0);
        word(x, 1, 1, 99, 0, 0);
        word(x, 2, 0, 0, 0, 0);
        word(x, 3, 2, 0, 0, 0);
        local(x, 2, 2, 5, 0, 0);
        is("no number -100", x.act(1, SET, 0, -100, 0), BAD);
        is("no number 100", x.act(1, SET, 0, 100, 0), BAD);
        is("no argument -100", x.call(1, 0, -100), BAD);
        is("no argument 100", x.call(1, 0, 100), BAD);
    }

    private static void marks() {
        FreeShelf x = after(3, 7, act(TAKE, 1), act(MARK, 0, 1), act(MARK, 1, 1), act(SET, 2, 7), act(ADD, 0, 3),
            act(COPY, 3, 0), act(COPY, 4, 1), act(MARK, 4, 0), act(FENCE), act(SET, 0, 7));
        local(x, 0, 1, 7, 0, 0);
        local(x, 1, 2, 0, 1, 0);
        local(x, 2, 1, 7, 0, 0);
        local(x, 3, 1, 7, 1, 0);
        local(x, 4, 2, 0, 0, 0);
        local(x, 5, 1, 3, 0, 0);
        is("no mark 2", x.act(1, MARK, 0, 2, 0), BAD);
        is("no mark -1", x.act(1, MARK, 0, -1, 0), BAD);
    }

    /** Whether locals 1 and 2 are alike after these own operations; local 0 holds node 0. */
    private static int found(int[]... made) {
        int n = made.length + 1;
        FreeShelf x = after(1, 0, join(rows(act(TAKE, 0)), made, rows(act(SAME, 1, 2, n + 3), act(SET, 3, 0),
            act(GO, n + 4), act(SET, 3, 1), act(FENCE))));
        return x.local(0, 3, 1);
    }

    private static void alike() {
        is("nothing and nothing", found(), 1);
        is("nothing and 0", found(act(SET, 1, 0)), 0);
        is("nothing and node 0", found(act(COPY, 1, 0)), 0);
        is("0 and node 0", found(act(SET, 2, 0), act(COPY, 1, 0)), 0);
        is("99 and 99", found(act(SET, 1, 99), act(SET, 2, 99)), 1);
        is("99 and -99", found(act(SET, 1, 99), act(SET, 2, -99)), 0);
        is("98 and 99", found(act(SET, 1, 98), act(SET, 2, 99)), 0);
        is("0 and marked 0", found(act(SET, 1, 0), act(SET, 2, 0), act(MARK, 2, 1)), 0);
        is("marked 0 twice", found(act(SET, 1, 0), act(MARK, 1, 1), act(COPY, 2, 1)), 1);
        is("node 0 twice", found(act(COPY, 1, 0), act(COPY, 2, 0)), 1);
        is("marked node 0", found(act(COPY, 1, 0), act(COPY, 2, 0), act(MARK, 1, 1)), 0);
        is("marked nothing", found(act(MARK, 1, 1)), 1);
        FreeShelf x = after(2, false, 3, 5, act(WRITE, 0, 0), act(READ, 1, 0), act(SAME, 0, 1, 4), act(GO, 6),
            act(SET, 2, 1), act(FENCE));
        local(x, 1, 1, 5, 0, 1);
        is("another count, but alike", x.local(0, 2, 1), 1);
    }

    private static void keptInRange() {
        int[][] sums = {{98, 1, 99}, {99, 0, 99}, {99, 1, 99}, {99, 99, 99}, {0, 99, 99}, {-98, -1, -99}, {-99, 0, -99},
            {-99, -1, -99}, {-99, -99, -99}, {0, -99, -99}, {-99, 99, 0}, {99, -99, 0}, {1, -1, 0}, {98, 2, 99},
            {-98, -2, -99}};
        for (int[] sum : sums) {
            FreeShelf x = after(3, sum[0], act(WRITE, 3, 0), act(PLUS, 0, sum[1]), act(ADD, 3, sum[1]), act(FENCE));
            is(sum[0] + " plus " + sum[1], x.local(0, 0, 1), sum[2]);
            is(sum[1] + " added to " + sum[0], x.word(3, 1), sum[2]);
            is("the new number", x.local(0, 5, 1), sum[2]);
        }
    }

    private static void words() {
        FreeShelf x = after(12, 1, join(times(5, act(TAKE, 1)), rows(act(TAKE, 2), act(WRITE, 0, 0), act(SET, 0, 2),
            act(WRITE, 7, 0), act(SET, 0, 3), act(LAY, 1, 0, 0), act(SET, 0, 4), act(LAY, 1, 1, 0), act(SET, 0, 5),
            act(LAY, 2, 0, 0), act(SET, 0, 6), act(LAY, 2, 1, 0))));
        int[] due = new int[20];
        due[0] = 1;
        due[7] = 2;
        due[8 + 2 * 4] = 3;
        due[8 + 2 * 4 + 1] = 4;
        due[8 + 2 * 5] = 5;
        due[8 + 2 * 5 + 1] = 6;
        for (int w = 0; w < 20; w++) is("word " + w, x.word(w, 1), due[w]);
        is("no global 8", x.act(1, READ, 0, 8, 0), BAD);
        is("no global -1", x.act(1, READ, 0, -1, 0), BAD);
        is("no field 2", x.act(1, LOOK, 0, 0, 2), BAD);
        is("no field -1", x.act(1, LOOK, 0, 0, -1), BAD);
    }

    private static void wordsAtFirst() {
        for (int manner = 0; manner < 5; manner++) {
            FreeShelf x = after(manner, true, 0, 5, act(FENCE));
            for (int w = 0; w < 20; w++) word(x, w, 0, 0, 0, 0);
        }
        FreeShelf y = after(2, false, 1, 5, act(WRITE, 0, 0));
        y.begin();
        word(y, 0, 0, 0, 0, 0);
    }

    private static void countsWithManner2() {
        int[][] gives = {act(WRITE, 0, 0), act(TAKE, 1), act(LAY, 1, 0, 0), act(ADD, 1, 1), act(SWAP, 2, 3, 0),
            act(TAKE, 2), act(TURN, 2, 3, 0)};
        for (int manner = 0; manner < 5; manner++) {
            FreeShelf x = after(manner, false, 7, 5, gives);
            for (int w = 0; w < 11; w++) is("manner " + manner + ", word " + w, x.word(w, 3), countDue(manner, w));
        }
    }

    private static int countDue(int manner, int w) {
        return manner == 2 && (w < 3 || w == 8 || w == 10) ? 1 : 0;
    }

    /** Goes round five times and asks for the count of a word each time. */
    private static void fiveTimes(String name, int w, int steps, int first, int[]... rows) {
        FreeShelf x = after(2, false, first, 5, rows);
        for (int i = 1; i <= 5; i++) {
            steps(x, 0, steps);
            is(name + " " + i, x.word(w, 3), i % 4);
        }
    }

    private static void countsModulo4() {
        fiveTimes("write", 0, 1, 0, act(WRITE, 0, 0), act(GO, 0));
        fiveTimes("write nothing", 7, 1, 0, act(WRITE, 7, 1), act(GO, 0));
        fiveTimes("add", 0, 1, 0, act(ADD, 0, 0), act(GO, 0));
        fiveTimes("lay", 9, 1, 1, act(TAKE, 1), act(LAY, 1, 1, 0), act(GO, 1));
        fiveTimes("swap", 0, 2, 0, act(READ, 1, 0), act(SWAP, 0, 1, 1), act(GO, 0));
        fiveTimes("turn", 8, 2, 1, act(TAKE, 1), act(LOOK, 2, 1, 0), act(TURN, 1, 2, 0), act(GO, 1));
        FreeShelf x = after(2, true, 4, 5, times(4, act(WRITE, 0, 0)));
        is("not before the writes come", x.word(0, 3), 0);
        for (int i = 1; i <= 4; i++) {
            x.step(3);
            is("a write comes " + i, x.word(0, 3), i % 4);
        }
        is("a swap that fails gives none", after(2, false, 1, 5, act(SWAP, 0, 0, 0)).word(0, 3), 0);
        is("read gives none", after(2, false, 1, 5, act(READ, 0, 0)).word(0, 3), 0);
    }

    private static void sixRoutines() {
        FreeShelf x = new FreeShelf();
        for (int r = 0; r < 6; r++) is("routine " + r, x.act(r, SET, 0, r, 0), 1);
        for (int r = 0; r < 6; r++) is("its own act", x.told(r, 0, 2), r);
        is(x.act(6, SET, 0, 0, 0), BAD);
        is(x.act(-1, SET, 0, 0, 0), BAD);
        is(x.told(6, -1, 0), NO_NUMBER);
        is(x.told(-1, -1, 0), NO_NUMBER);
    }

    private static void missingOr0To30Acts() {
        FreeShelf x = new FreeShelf();
        is("missing", x.told(5, -1, 0), NONE);
        x.tear(5, 0);
        is("0 acts", x.told(5, -1, 0), 0);
        is("no act 0", x.told(5, 0, 0), NO_NUMBER);
        for (int i = 0; i < 30; i++) is("acts", x.act(5, SET, 1, i, 0), i + 1);
        for (int i = 0; i < 30; i++) is("act " + i, x.told(5, i, 2), i);
        is("no act 30", x.told(5, 30, 0), NO_NUMBER);
        is("no 31st act", x.act(5, SET, 1, 30, 0), FULL);
        x.act(4, SET, 1, 77, 0);
        x.call(0, 5, 0);
        x.begin();
        x.step(0);
        is("after act 29 there is none", error(x), 3);
        is("all 30 are done", x.local(0, 1, 1), 29);
    }

    private static void sixLocals() {
        FreeShelf x = after(1, 0, act(SET, 0, 10), act(SET, 1, 11), act(SET, 2, 12), act(SET, 3, 13), act(SET, 4, 14),
            act(SET, 5, 15), act(FENCE));
        for (int l = 0; l < 6; l++) is("local " + l, x.local(0, l, 1), 10 + l);
        is("no local 6", x.act(1, SET, 6, 0, 0), BAD);
        is("no local -1", x.act(1, SET, -1, 0, 0), BAD);
        x.clear();
        for (int t = 0; t < 3; t++) x.call(t, 0, 0);
        x.begin();
        x.step(1);
        is("of thread 0", x.local(0, 5, 1), 0);
        is("of thread 1", x.local(1, 5, 1), 15);
        is("of thread 2", x.local(2, 0, 1), 0);
    }

    /** The count of a local that first had count 1 by a read, after an act that gives it a value. */
    private static int countAfter(int l, int[] row) {
        FreeShelf x = after(2, false, 4, 5, act(WRITE, 0, 0), act(TAKE, 0), act(READ, l, 0), act(SET, 4, 5), row,
            act(FENCE));
        return x.local(0, l, 3);
    }

    private static void localsWithoutCount() {
        is("the argument", after(2, false, 1, 5, act(FENCE)).local(0, 0, 3), 0);
        is("a fence, for comparison", countAfter(1, act(FENCE)), 1);
        is("set", countAfter(1, act(SET, 1, 5)), 0);
        is("none", countAfter(1, act(BLANK, 1)), 0);
        is("plus", countAfter(1, act(PLUS, 1, 0)), 0);
        is("take", countAfter(1, act(TAKE, 1)), 0);
        is("copy of one without", countAfter(1, act(COPY, 1, 4)), 0);
        is("a swap that goes well", countAfter(5, act(SWAP, 0, 5, 4)), 0);
        is("a swap that fails", countAfter(5, act(SWAP, 0, 4, 4)), 0);
        is("turn", countAfter(5, act(TURN, 0, 4, 4)), 0);
        is("add", countAfter(5, act(ADD, 0, 1)), 0);
    }

    private static void read() {
        int[][] rows = join(rows(act(READ, 1, 7)), times(4, act(WRITE, 7, 0)), rows(act(READ, 0, 7), act(READ, 2, 6)));
        FreeShelf x = after(2, false, 7, -99, rows);
        local(x, 1, 0, 0, 0, 0);
        local(x, 0, 1, -99, 0, 0);
        local(x, 2, 0, 0, 0, 0);
        for (int n = 1; n <= 3; n++) {
            FreeShelf y = after(2, false, n + 1, 99, join(times(n, act(WRITE, 0, 0)), rows(act(READ, 5, 0))));
            local(y, 5, 1, 99, 0, n);
        }
        FreeShelf z = after(2, false, 3, 1, act(WRITE, 0, 0), act(WRITE, 0, 1), act(READ, 0, 0));
        local(z, 0, 0, 0, 0, 2);
    }

    private static void look() {
        FreeShelf x = after(2, false, 6, 9, act(TAKE, 1), act(LAY, 1, 1, 0), act(LAY, 1, 1, 1), act(LOOK, 2, 1, 0),
            act(LOOK, 3, 1, 1), act(LOOK, 1, 1, 1));
        local(x, 2, 0, 0, 0, 0);
        local(x, 3, 2, 0, 0, 2);
        local(x, 1, 2, 0, 0, 2);
        for (int w = 0; w < 20; w++) is("it changes no word", x.word(w, 0), w == 9 ? 2 : 0);
        for (int n = 1; n <= 6; n++) {
            FreeShelf last = after(n + 3, n, join(times(n, act(TAKE, 4)), rows(act(LAY, 4, 0, 0), act(LAY, 4, 1, 4),
                act(LOOK, 3, 4, 0))));
            local(last, 3, 1, n, 0, 0);
        }
        FreeShelf y = after(2, false, 5, 9, join(rows(act(TAKE, 1)), times(3, act(LAY, 1, 0, 0)),
            rows(act(LOOK, 4, 1, 0))));
        local(y, 4, 1, 9, 0, 3);
    }

    private static void write() {
        FreeShelf x = after(3, 7, act(WRITE, 0, 0), act(WRITE, 7, 0), act(WRITE, 0, 1), act(FENCE));
        word(x, 0, 0, 0, 0, 0);
        word(x, 7, 1, 7, 0, 0);
        FreeShelf y = after(2, false, 5, 7, act(MARK, 0, 1), act(WRITE, 1, 0), act(WRITE, 1, 0), act(READ, 2, 1),
            act(WRITE, 3, 2), act(WRITE, 4, 5));
        word(y, 1, 1, 7, 1, 2);
        word(y, 3, 1, 7, 1, 1);
        word(y, 4, 0, 0, 0, 1);
    }

    private static void lay() {
        FreeShelf x = after(5, 7, act(TAKE, 1), act(LAY, 1, 0, 0), act(LAY, 1, 1, 1), act(LAY, 1, 0, 5),
            act(LAY, 1, 1, 0));
        word(x, 8, 0, 0, 0, 0);
        word(x, 9, 1, 7, 0, 0);
        is("nothing else", x.word(10, 0), 0);
    }

    private static void swap() {
        FreeShelf x = after(2, 7, act(SWAP, 7, 1, 0), act(SWAP, 7, 1, 1));
        word(x, 7, 1, 7, 0, 0);
        local(x, 5, 1, 0, 0, 0);
        FreeShelf y = after(1, 7, act(SWAP, 0, 5, 0));
        word(y, 0, 1, 7, 0, 0);
        local(y, 5, 1, 1, 0, 0);
        FreeShelf z = after(1, 7, act(SET, 5, 1), act(SWAP, 0, 5, 0));
        is("nothing is not 1", z.local(0, 5, 1), 0);
        FreeShelf w = after(2, 7, act(WRITE, 0, 0), act(SET, 5, 3), act(SWAP, 0, 0, 5), act(FENCE));
        word(w, 0, 1, 3, 0, 0);
        FreeShelf emptied = after(2, 7, act(WRITE, 0, 0), act(SWAP, 0, 0, 3));
        is("to nothing", emptied.word(0, 0), 0);
        local(emptied, 5, 1, 1, 0, 0);
        FreeShelf marked = after(3, 7, act(WRITE, 0, 0), act(MARK, 0, 1), act(SWAP, 0, 0, 1), act(FENCE));
        is("another mark", marked.local(0, 5, 1), 0);
        // Values that have been given since the read: four of them, and the count is what it was.
        for (int n = 0; n <= 8; n++) {
            int[][] rows = join(rows(act(WRITE, 0, 0), act(READ, 1, 0)), times(n, act(WRITE, 0, 0)),
                rows(act(SWAP, 0, 1, 2)));
            is("values with manner 2: " + n, after(2, false, n + 3, 7, rows).local(0, 5, 1), n % 4 == 0 ? 1 : 0);
            is("values with manner 1: " + n, after(1, false, n + 3, 7, rows).local(0, 5, 1), 1);
        }
    }

    private static void turn() {
        FreeShelf x = after(3, 7, act(TAKE, 1), act(TURN, 1, 2, 0), act(TURN, 1, 2, 1));
        word(x, 8, 1, 7, 0, 0);
        is("field 1", x.word(9, 0), 0);
        local(x, 5, 1, 0, 0, 0);
        FreeShelf self = after(3, 7, act(TAKE, 1), act(TURN, 1, 5, 1), act(TURN, 1, 1, 5));
        word(self, 8, 1, 1, 0, 0);
        for (int n = 0; n <= 8; n++) {
            int[][] rows = join(rows(act(TAKE, 1), act(LAY, 1, 0, 0), act(LOOK, 2, 1, 0)),
                times(n, act(LAY, 1, 0, 0)), rows(act(TURN, 1, 2, 0)));
            is("values with manner 2: " + n, after(2, false, n + 4, 7, rows).local(0, 5, 1), n % 4 == 0 ? 1 : 0);
            is("values with manner 3: " + n, after(3, false, n + 4, 7, rows).local(0, 5, 1), 1);
        }
    }

    private static void add() {
        FreeShelf x = after(4, 7, act(ADD, 0, -99), act(ADD, 7, 0), act(COPY, 1, 5), act(ADD, 6, 99), act(ADD, 6, 1));
        word(x, 0, 1, -99, 0, 0);
        word(x, 7, 1, 0, 0, 0);
        local(x, 1, 1, 0, 0, 0);
        word(x, 6, 1, 99, 0, 0);
        local(x, 5, 1, 99, 0, 0);
        FreeShelf y = after(2, 7, act(MARK, 0, 1), act(WRITE, 0, 0), act(ADD, 0, 0), act(FENCE));
        word(y, 0, 1, 7, 0, 0);
        local(y, 5, 1, 7, 0, 0);
        is("a node", errorAfter(3, 0, act(TAKE, 1), act(WRITE, 0, 1), act(ADD, 0, 1)), 2);
    }

    private static void takeLowest() {
        // Takes all, releases nodes 4 and 2, and takes until none is free.
        FreeShelf x = after(1, false, 8, 0, act(TAKE, 0), act(TAKE, 0), act(TAKE, 1), act(TAKE, 0), act(TAKE, 2),
            act(TAKE, 0), act(LET, 2), act(LET, 1), act(TAKE, 3), act(TAKE, 4), act(TAKE, 5));
        is("node 2 is free", x.node(2), 0);
        is("node 4 is free", x.node(4), 0);
        steps(x, 0, 3);
        local(x, 3, 2, 2, 0, 0);
        local(x, 4, 2, 4, 0, 0);
        local(x, 5, 0, 0, 0, 0);
        for (int k = 0; k < 6; k++) is("taken", x.node(k), 1);
        is("the first", after(1, 0, act(TAKE, 5)).local(0, 5, 1), 0);
    }

    private static void takeEmpties() {
        FreeShelf x = after(2, false, 6, 9, act(TAKE, 1), act(LAY, 1, 0, 0), act(LAY, 1, 1, 0), act(LAY, 1, 1, 0),
            act(LET, 1), act(TAKE, 2));
        word(x, 8, 0, 0, 0, 1);
        word(x, 9, 0, 0, 0, 2);
        is("taken", x.node(0), 1);
        FreeShelf y = after(2, false, 1, 9, act(TAKE, 2));
        word(y, 8, 0, 0, 0, 0);
        FreeShelf z = after(1, false, 4, 9, act(TAKE, 1), act(LAY, 1, 1, 0), act(LET, 1), act(FENCE), act(TAKE, 1));
        word(z, 9, 1, 9, 0, 0);
    }

    private static void takeNone() {
        for (int manner = 0; manner < 5; manner++) {
            FreeShelf x = after(manner, false, 7, 9, times(7, act(TAKE, 0)));
            local(x, 0, 0, 0, 0, 0);
            is("no error", error(x), 0);
        }
        FreeShelf y = after(0, false, 7, 9, join(times(6, act(TAKE, 0)), rows(act(LET, 0), act(TAKE, 1))));
        steps(y, 0, 1);
        is("a released node is not free", y.local(0, 1, 0), 0);
    }

    private static void guard() {
        int[][] rows = join(times(6, act(TAKE, 1)), rows(act(GUARD, 0, 1), act(GUARD, 1, 1), act(GUARD, 0, 0),
            act(GUARD, 1, 5), act(TAKE, 2)));
        FreeShelf x = after(8, 3, rows);
        is("guard 0", x.thread(0, 5), 5);
        is("guard 1", x.thread(0, 6), 5);
        is("it does not enter", x.thread(0, 7), NONE);
        steps(x, 0, 1);
        is("a number is no node", x.thread(0, 5), NONE);
        is("guard 1", x.thread(0, 6), 5);
        steps(x, 0, 1);
        is("nothing is no node", x.thread(0, 6), NONE);
        FreeShelf y = after(3, 3, act(TAKE, 1), act(MARK, 1, 1), act(GUARD, 1, 1), act(GUARD, 0, 0));
        is("node 0, with a mark", y.thread(0, 6), 0);
        is("the argument is no node", y.thread(0, 5), NONE);
        is("no guard 2", x.act(1, GUARD, 2, 0, 0), BAD);
        is("no guard -1", x.act(1, GUARD, -1, 0, 0), BAD);
        is("a free node can be a guard", after(1, false, 3, 0, act(TAKE, 1), act(LET, 1), act(GUARD, 0, 1)).thread(0, 5), 0);
    }

    private static void enterAndLeave() {
        FreeShelf x = after(4, false, 1, 0, act(LEAVE), act(ENTER), act(TAKE, 1), act(LET, 1), act(ENTER), act(LEAVE),
            act(LEAVE));
        is("leave without enter", x.thread(0, 7), NONE);
        steps(x, 0, 1);
        is("inside with epoch 0", x.thread(0, 7), 0);
        steps(x, 0, 2);
        is("the epoch has turned", x.epoch(), 1);
        is("inside with the old one", x.thread(0, 7), 0);
        steps(x, 0, 1);
        is("enter once more", x.thread(0, 7), 1);
        steps(x, 0, 1);
        is("left", x.thread(0, 7), NONE);
        steps(x, 0, 1);
        is("left twice", x.thread(0, 7), NONE);
    }

    private static int answerOf(int argument, int[]... rows) {
        FreeShelf x = after(0, argument, rows);
        is("it ends", x.run(100) < 100 ? x.thread(0, 0) : -1, 1);
        return x.answer(0, 0);
    }

    private static void answers() {
        for (int n : new int[] {-99, -4, -1, 0, 1, 99}) {
            is("number " + n, answerOf(n, act(RETURN, 0)), n);
            is("marked number " + n, answerOf(n, act(MARK, 0, 1), act(RETURN, 0)), n);
        }
        is("node 0", answerOf(7, act(TAKE, 5), act(RETURN, 5)), 100);
        is("node 5", answerOf(7, join(times(6, act(TAKE, 1)), rows(act(MARK, 1, 1), act(RETURN, 1)))), 100);
        is("nothing", answerOf(7, act(RETURN, 1)), -100);
        is("no node was free", answerOf(7, join(times(7, act(TAKE, 1)), rows(act(RETURN, 1)))), -100);
    }

    private static void afterReturn() {
        FreeShelf x = after(2, false, 7, 7, act(TAKE, 1), act(GUARD, 0, 1), act(GUARD, 1, 1), act(ENTER),
            act(WRITE, 0, 0), act(READ, 2, 0), act(SET, 3, 99), act(SET, 4, -99), act(ADD, 1, 1), act(RETURN, 0));
        is("guard 0", x.thread(0, 5), 0);
        is("inside", x.thread(0, 7), 0);
        steps(x, 0, 1);
        for (int l = 0; l < 6; l++) local(x, l, 0, 0, 0, 0);
        is("no guard 0", x.thread(0, 5), NONE);
        is("no guard 1", x.thread(0, 6), NONE);
        is("not inside", x.thread(0, 7), NONE);
        is("at no act", x.thread(0, 2), 0);
    }

    private static void setNoneCopy() {
        FreeShelf x = after(2, false, 2, 7, act(WRITE, 0, 0), act(SET, 1, -99), act(SET, 2, 99), act(BLANK, 3),
            act(SET, 4, 0), act(READ, 0, 0), act(COPY, 5, 0), act(BLANK, 0), act(COPY, 3, 2), act(COPY, 2, 0),
            act(FENCE));
        local(x, 1, 1, -99, 0, 0);
        local(x, 2, 0, 0, 0, 0);
        local(x, 3, 1, 99, 0, 0);
        local(x, 4, 1, 0, 0, 0);
        local(x, 5, 1, 7, 0, 1);
        local(x, 0, 0, 0, 0, 0);
    }

    private static void markOfNothing() {
        FreeShelf x = after(2, false, 5, 7, act(WRITE, 0, 0), act(WRITE, 0, 4), act(READ, 1, 0), act(MARK, 1, 1),
            act(WRITE, 1, 0), act(READ, 0, 1), act(MARK, 0, 1), act(MARK, 0, 1), act(MARK, 2, 0), act(MARK, 3, 1),
            act(FENCE));
        local(x, 1, 0, 0, 0, 2);
        local(x, 0, 1, 7, 1, 1);
        local(x, 2, 0, 0, 0, 0);
        local(x, 3, 0, 0, 0, 0);
        FreeShelf y = after(1, -99, act(MARK, 0, 1), act(FENCE), act(MARK, 0, 0));
        local(y, 0, 1, -99, 0, 0);
    }

    private static void go() {
        FreeShelf x = after(1, 7, act(FENCE), act(GO, 40));
        is("at act 40", x.thread(0, 2), 40);
        is("no error before the next step", error(x), 0);
        steps(x, 0, 1);
        is("no act 40", error(x), 3);
        FreeShelf y = after(2, 7, act(ADD, 0, 1), act(GO, 0));
        is("back to act 0", y.word(0, 1), 2);
        is("back to act 0", y.thread(0, 2), 0);
        is("over acts", after(1, 7, act(GO, 2), act(SET, 0, 1), act(FENCE)).local(0, 0, 1), 7);
        is("to itself", error(after(1, 7, act(GO, 0))), 6);
        is("no act 41", y.act(1, GO, 41, 0, 0), BAD);
        is("no act -1", y.act(1, GO, -1, 0, 0), BAD);
        FreeShelf z = after(1, 7, join(rows(act(GO, 29)), times(28, act(SET, 0, 1)), rows(act(ADD, 3, 1))));
        is("to act 29", z.word(3, 1), 1);
        is("after act 29", z.thread(0, 2), 30);
    }

    private static void same() {
        FreeShelf x = after(1, 7, act(FENCE), act(SAME, 1, 2, 40));
        is("at act 40", x.thread(0, 2), 40);
        FreeShelf y = after(1, 7, act(FENCE), act(SAME, 0, 1, 40), act(FENCE));
        is("not alike: the next act", y.thread(0, 2), 2);
        FreeShelf z = after(2, 7, act(ADD, 0, 1), act(SAME, 0, 0, 0));
        is("a local is alike itself", z.word(0, 1), 2);
        is("to itself", error(after(1, 7, act(SAME, 0, 0, 0))), 6);
        is("no act 41", z.act(1, SAME, 0, 0, 41), BAD);
        is("no act -1", z.act(1, SAME, 0, 0, -1), BAD);
    }

    private static void plus() {
        FreeShelf x = after(1, 98, act(MARK, 0, 1), act(PLUS, 0, 1), act(COPY, 1, 0), act(MARK, 1, 1), act(PLUS, 1, 1),
            act(SET, 2, -99), act(PLUS, 2, -99), act(SET, 3, -99), act(PLUS, 3, 99), act(FENCE));
        local(x, 0, 1, 99, 0, 0);
        local(x, 1, 1, 99, 0, 0);
        local(x, 2, 1, -99, 0, 0);
        local(x, 3, 1, 0, 0, 0);
        is("nothing", errorAfter(1, 0, act(PLUS, 1, 1)), 1);
        is("a node", errorAfter(1, 0, act(TAKE, 0), act(PLUS, 0, 1)), 2);
    }

    private static void stopsForEver() {
        FreeShelf x = Shelf.with(0, act(FENCE), act(LET, 0));
        x.call(0, 0, 0);
        x.call(1, 0, 0);
        x.begin();
        steps(x, 0, 2);
        is("it has met an error", error(x), 2);
        is("no step is possible", x.may(0), 0);
        is("no step", x.step(0), NO);
        is("others go on", x.step(1), 3);
        is("for ever", x.step(0), NO);
        is("run passes it by", x.run(100), 1);
        is("its second call never begins", x.thread(0, 0), 0);
        is("an end", x.agrees(), 0);
    }

    /** A thread with a guard, which is inside and has two delayed writes, meets an error by an act. */
    private static void unchangedBy(int manner, int error, int[] row) {
        FreeShelf x = after(manner, true, 7, 3, act(TAKE, 1), act(TAKE, 2), act(LET, 2), act(GUARD, 0, 1), act(ENTER),
            act(WRITE, 0, 0), act(LAY, 1, 1, 0), row, act(FENCE));
        boolean comes = row[0] == TURN || row[0] == LET;
        String before = state(x);
        int epoch = x.epoch();
        is("a step", x.step(0), 8);
        is("the error of " + row[0], error(x), error);
        is("its place", x.thread(0, 2), 7);
        is("its call is begun", x.thread(0, 1), 1);
        is("its call is not over", x.thread(0, 0), 0);
        is("its guard", x.thread(0, 5), 0);
        holds("inside", x.thread(0, 7) >= 0);
        is("the epoch", x.epoch(), epoch);
        is("word 8", x.word(8, 0), 0);
        for (int l = 0; l < 6; l++) is("local " + l, x.local(0, l, 1), l == 0 ? 3 : l == 2 ? 1 : 0);
        is("the delayed writes", x.thread(0, 4), comes ? 0 : 2);
        if (!comes) holds("nothing has changed", state(x).equals(before));
    }

    private static void noOtherEffect() {
        unchangedBy(0, 1, act(LOOK, 0, 4, 0));
        unchangedBy(0, 2, act(LOOK, 1, 0, 0));
        unchangedBy(0, 1, act(LAY, 4, 0, 0));
        unchangedBy(1, 4, act(LAY, 2, 0, 0));
        unchangedBy(1, 4, act(LOOK, 1, 2, 0));
        unchangedBy(1, 4, act(TURN, 2, 4, 0));
        unchangedBy(0, 2, act(TURN, 0, 4, 0));
        unchangedBy(0, 5, act(LET, 2));
        unchangedBy(1, 5, act(LET, 2));
        unchangedBy(4, 5, act(LET, 2));
        unchangedBy(3, 2, act(LET, 0));
        FreeShelf x = after(3, 0, act(TAKE, 1), act(WRITE, 0, 1), act(ADD, 0, 1));
        word(x, 0, 2, 0, 0, 0);
        is("add leaves local 5", x.local(0, 5, 0), 0);
        FreeShelf y = after(1, 0, act(PLUS, 1, 5));
        is("plus leaves nothing", y.local(0, 1, 0), 0);
    }

    /** 29 own operations that leave 8 in local 1 and -1 in local 2: three, and eight times three, and two. */
    private static int[][] own29() {
        return rows(act(SET, 1, 0), act(SET, 3, 8), act(SET, 2, 0), act(PLUS, 1, 1), act(SAME, 1, 3, 6), act(GO, 3),
            act(SET, 2, 0), act(SET, 2, -1), act(SET, 2, -1));
    }

    private static void severalErrors() {
        int[][] own30 = join(own29(), rows(act(SET, 2, -1)));
        is("30 are possible", error(after(1, 0, join(own30, rows(act(FENCE))))), 0);
        is("6 alone", error(after(1, 0, join(own30, rows(act(PLUS, 1, 1))))), 6);
        is("1 before 6", error(after(1, 0, join(own30, rows(act(PLUS, 4, 1))))), 1);
        int[][] own28 = rows(act(TAKE, 0), act(SET, 1, 0), act(SET, 3, 9), act(PLUS, 1, 1), act(SAME, 1, 3, 6),
            act(GO, 3), act(SET, 2, 1), act(SET, 2, 1));
        is("30 behind", error(after(1, 0, join(own28, rows(act(FENCE))))), 0);
        is("2 before 6", error(after(1, 0, join(own28, rows(act(PLUS, 0, 1))))), 2);
        is("30, then no act", error(after(1, 0, own30)), 3);
    }

    private static void error1() {
        is("look", errorAfter(1, 0, act(LOOK, 0, 1, 0)), 1);
        is("lay", errorAfter(1, 0, act(LAY, 1, 0, 0)), 1);
        is("turn", errorAfter(1, 0, act(TURN, 1, 1, 1)), 1);
        is("let", errorAfter(1, 0, act(LET, 5)), 1);
        is("plus", errorAfter(1, 0, act(PLUS, 5, 1)), 1);
        is("a marked nothing", errorAfter(1, 0, act(MARK, 1, 1), act(LET, 1)), 1);
        is("guard needs none", errorAfter(1, 0, act(GUARD, 0, 1)), 0);
        is("return needs none", errorAfter(1, 0, act(RETURN, 1)), 0);
        is("add needs none", errorAfter(1, 0, act(ADD, 0, 1)), 0);
        is("write needs none", errorAfter(1, 0, act(WRITE, 0, 1)), 0);
        is("what is laid can be nothing", errorAfter(2, 0, act(TAKE, 1), act(LAY, 1, 0, 2)), 0);
    }

    private static void error1Missing() {
        for (int r = 0; r < 6; r++) {
            FreeShelf x = new FreeShelf();
            for (int other = 0; other < 6; other++) if (other != r) x.act(other, RETURN, 0, 0, 0);
            x.call(2, r, 5);
            x.begin();
            is("possible", x.may(2), 1);
            is("a step", x.step(2), 1);
            is("missing routine " + r, x.thread(2, 3), 1);
        }
        FreeShelf y = after(0, 5);
        is("without acts it is not missing", error(after(1, 5)), 3);
        y.tear(0, -1);
        y.begin();
        steps(y, 0, 1);
        is("missing again", error(y), 1);
        FreeShelf z = Shelf.with(5, act(RETURN, 0));
        z.call(0, 1, 5);
        z.begin();
        steps(z, 0, 2);
        is("the second call", error(z), 1);
        is("the first is over", z.thread(0, 0), 1);
    }

    private static void error2() {
        is("look", errorAfter(1, 0, act(LOOK, 1, 0, 0)), 2);
        is("lay", errorAfter(1, 0, act(LAY, 0, 0, 1)), 2);
        is("turn", errorAfter(1, 5, act(TURN, 0, 1, 1)), 2);
        is("let", errorAfter(1, -99, act(LET, 0)), 2);
        is("plus", errorAfter(1, 0, act(TAKE, 1), act(PLUS, 1, 0)), 2);
        is("a marked number", errorAfter(1, 0, act(MARK, 0, 1), act(LET, 0)), 2);
        is("a marked node is a node", errorAfter(2, 0, act(TAKE, 0), act(MARK, 0, 1), act(LET, 0)), 0);
        is("a marked number is a number", errorAfter(1, 0, act(MARK, 0, 1), act(PLUS, 0, 0), act(FENCE)), 0);
        is("guard needs none", errorAfter(1, 0, act(GUARD, 0, 0)), 0);
    }

    private static void error2Add() {
        is("node 0", errorAfter(3, 0, act(TAKE, 1), act(WRITE, 7, 1), act(ADD, 7, 1)), 2);
        is("a marked node", errorAfter(3, 0, act(TAKE, 1), act(MARK, 1, 1), act(WRITE, 0, 1), act(ADD, 0, 0)), 2);
        is("another global", errorAfter(3, 0, act(TAKE, 1), act(WRITE, 0, 1), act(ADD, 1, 1)), 0);
        is("nothing", errorAfter(2, 0, act(WRITE, 0, 1), act(ADD, 0, 1)), 0);
    }

    private static void error3() {
        is("no acts", errorAfter(1, 0), 3);
        is("only own operations", errorAfter(1, 0, act(SET, 0, 1)), 3);
        is("after the last act", errorAfter(2, 0, act(FENCE)), 3);
        is("go to the first act that is not there", errorAfter(1, 0, act(GO, 1)), 3);
        is("go far", errorAfter(1, 0, act(GO, 40)), 3);
        FreeShelf x = after(1, 0, act(FENCE), act(SET, 1, 1));
        is("the step that comes there needs none", error(x), 0);
        is("its place", x.thread(0, 2), 2);
        is("own operations are done before it", error(after(1, 0, act(SET, 0, 1))), 3);
        is("they are done", after(1, 0, act(SET, 0, 1)).local(0, 0, 1), 1);
        is("after 30 acts", errorAfter(31, 0, times(30, act(FENCE))), 3);
        FreeShelf y = Shelf.with(0, act(FENCE));
        y.act(1, FENCE, 0, 0, 0);
        y.begin();
        steps(y, 0, 2);
        is("the acts of another routine do not follow", error(y), 3);
    }

    private static void error4() {
        int[][] uses = {act(LOOK, 2, 1, 0), act(LAY, 1, 0, 1), act(TURN, 1, 2, 1)};
        for (int[] use : uses) {
            for (int manner = 0; manner < 5; manner++) {
                boolean free = manner == 1 || manner == 2 || manner == 3;
                FreeShelf x = after(manner, false, 3, 0, act(TAKE, 1), act(LET, 1), use);
                is("op " + use[0] + ", manner " + manner, error(x), free ? 4 : 0);
            }
            FreeShelf taken = after(1, false, 4, 0, act(TAKE, 1), act(LET, 1), act(TAKE, 2), use);
            is("taken again", error(taken), 0);
        }
        FreeShelf y = after(1, false, 3, 0, act(TAKE, 1), act(LET, 1), act(TURN, 1, 1, 1));
        is("also if the turn would fail", error(y), 4);
        FreeShelf z = after(1, false, 4, 0, act(TAKE, 1), act(TAKE, 2), act(LET, 1), act(LAY, 2, 0, 1));
        is("a free node can be laid", error(z), 0);
    }

    private static void error5() {
        for (int manner = 0; manner < 5; manner++) {
            FreeShelf x = after(manner, false, 3, 0, act(TAKE, 1), act(LET, 1), act(LET, 1));
            is("twice with manner " + manner, error(x), 5);
            FreeShelf y = after(manner, false, 3, 0, act(TAKE, 1), act(TAKE, 2), act(LET, 2), act(FENCE));
            is("taken", error(y), 0);
        }
        FreeShelf guarded = after(3, false, 4, 0, act(TAKE, 1), act(GUARD, 0, 1), act(LET, 1), act(LET, 1));
        is("released and not free", error(guarded), 5);
        FreeShelf taken = after(1, false, 4, 0, act(TAKE, 1), act(LET, 1), act(TAKE, 2), act(LET, 1));
        is("taken again", error(taken), 0);
    }

    private static void error6() {
        int[][] own30 = join(own29(), rows(act(SET, 2, 50)));
        FreeShelf x = after(1, 0, join(own30, rows(act(SET, 2, 99), act(ADD, 0, 1))));
        is("31 at the beginning", error(x), 6);
        is("it stands there", x.thread(0, 2), own30.length);
        is("30 are done", x.local(0, 2, 1), 50);
        is("no memory operation", x.word(0, 0), 0);
        FreeShelf y = after(1, 0, join(own30, rows(act(ADD, 0, 1), act(SET, 2, 99))));
        is("30 at the beginning, one behind", error(y), 6);
        is("the memory operation is done", y.word(0, 1), 1);
        is("30 are done", y.local(0, 2, 1), 50);
        FreeShelf z = after(1, 0, join(own29(), rows(act(ADD, 0, 1), act(SET, 2, 99), act(FENCE), act(SET, 2, 77))));
        is("29 at the beginning, one behind", error(z), 0);
        is("done", z.local(0, 2, 1), 99);
        steps(z, 0, 1);
        is("counted anew in the next step", z.local(0, 2, 1), 77);
        FreeShelf circle = after(1, 0, act(FENCE), act(PLUS, 0, 1), act(GO, 1));
        is("31 behind", error(circle), 6);
        is("15 times round", circle.local(0, 0, 1), 15);
        is("it stands there", circle.thread(0, 2), 1);
    }
}
