import java.io.IOException;
import java.nio.file.Files;
import java.nio.file.Path;
import java.util.LinkedHashSet;
import java.util.Set;

/** What the tests share that have a part for each sentence of the document. */
abstract class Sentences {
    static final int BAD = -1, NO = -2, FULL = -3, NONE = -4, SPENT = -5, NO_NUMBER = -1000, NO_RUN = -2000;
    static final int MIN = Integer.MIN_VALUE, MAX = Integer.MAX_VALUE;
    static final int READ = Shelf.READ, LOOK = Shelf.LOOK, WRITE = Shelf.WRITE, LAY = Shelf.LAY, SWAP = Shelf.SWAP;
    static final int TURN = Shelf.TURN, ADD = Shelf.ADD, FENCE = Shelf.FENCE, TAKE = Shelf.TAKE, LET = Shelf.LET;
    static final int GUARD = Shelf.GUARD, ENTER = Shelf.ENTER, LEAVE = Shelf.LEAVE, RETURN = Shelf.RETURN;
    static final int SET = Shelf.SET, BLANK = Shelf.BLANK, COPY = Shelf.COPY, MARK = Shelf.MARK, GO = Shelf.GO;
    static final int SAME = Shelf.SAME, PLUS = Shelf.PLUS;

    private static final Set<String> QUOTED = new LinkedHashSet<>();
    private static String present = "";
    private static int right = 0;
    private static int wrong = 0;

    /** The test of a sentence, which is quoted from the document. */
    static void sentence(String quote, Runnable test) {
        present = quote;
        if (!QUOTED.add(quote)) fail("it is tested twice");
        int before = right + wrong;
        try {
            test.run();
        } catch (RuntimeException thrown) {
            fail("threw " + thrown);
        }
        if (right + wrong == before) fail("its test asks nothing");
    }

    static void is(String what, int got, int want) {
        if (got == want) right++;
        else fail(what + " answered " + got + ", due is " + want);
    }

    static void is(int got, int want) {
        is("a call", got, want);
    }

    static void holds(String what, boolean right) {
        is(what, right ? 1 : 0, 1);
    }

    private static void fail(String what) {
        wrong++;
        System.out.println("\"" + present + "\": " + what);
    }

    /** Ends the test, with exit code 1 if an answer was wrong; the first argument is the folder of the project. */
    static void close(String name, String[] args) throws IOException {
        Path document = Path.of(args.length > 0 ? args[0] : ".", "..", "shared", "DOC.md");
        if (Files.exists(document)) tellUnsaid(plain(Files.readString(document)));
        System.out.println(name + ": " + QUOTED.size() + " sentences, " + right + " answers as due, " + wrong + " not");
        if (wrong != 0) System.exit(1);
    }

    /** Tells only, since the program may be right when the document has got other words. */
    private static void tellUnsaid(String document) {
        for (String quote : QUOTED) {
            for (String part : quote.split(" \\.\\. ")) {
                if (!document.contains(plain(part))) System.out.println("not in the document: " + part);
            }
        }
    }

    private static String plain(String text) {
        return text.replace("`", "").replaceAll("\\s+", " ");
    }

    static int[] act(int op, int... numbers) {
        return Shelf.act(op, numbers);
    }

    /** So many rows that are the same. */
    static int[][] times(int n, int[] row) {
        int[][] rows = new int[n][];
        for (int i = 0; i < n; i++) rows[i] = row;
        return rows;
    }

    static int[][] join(int[][]... parts) {
        int length = 0;
        for (int[][] part : parts) length += part.length;
        int[][] rows = new int[length][];
        int at = 0;
        for (int[][] part : parts) {
            System.arraycopy(part, 0, rows, at, part.length);
            at += part.length;
        }
        return rows;
    }

    static int[][] rows(int[]... rows) {
        return rows;
    }

    /** A run of routine 0, called by thread 0, after so many of its steps, with manner 0 and ordered memory. */
    static FreeShelf after(int steps, int argument, int[]... rows) {
        return after(0, false, steps, argument, rows);
    }

    static FreeShelf after(int manner, boolean late, int steps, int argument, int[]... rows) {
        FreeShelf x = Shelf.with(argument, rows);
        x.manner(manner);
        x.late(late);
        x.begin();
        steps(x, 0, steps);
        return x;
    }

    static void steps(FreeShelf x, int thread, int n) {
        for (int i = 0; i < n; i++) holds("a step is possible", x.step(thread) > 0);
    }

    /** Choices of a new run. */
    static void choices(FreeShelf x, int... choices) {
        is("begin", x.begin(), 1);
        for (int i = 0; i < choices.length; i++) is("step", x.step(choices[i]), i + 1);
    }

    static int error(FreeShelf x) {
        return x.thread(0, 3);
    }

    /** The error that thread 0 meets in the last one of so many steps. */
    static int errorAfter(int steps, int argument, int[]... rows) {
        FreeShelf x = after(steps - 1, argument, rows);
        is("no error before", error(x), 0);
        steps(x, 0, 1);
        return error(x);
    }

    static void local(FreeShelf x, int l, int kind, int amount, int mark, int count) {
        int[] due = {kind, amount, mark, count};
        for (int i = 0; i < 4; i++) is("local(0, " + l + ", " + i + ")", x.local(0, l, i), due[i]);
    }

    static void word(FreeShelf x, int w, int kind, int amount, int mark, int count) {
        int[] due = {kind, amount, mark, count};
        for (int i = 0; i < 4; i++) is("word(" + w + ", " + i + ")", x.word(w, i), due[i]);
    }

    /** Everything that an object tells about its run. */
    static String run(FreeShelf x) {
        StringBuilder text = new StringBuilder(state(x));
        for (int t = 0; t < 3; t++) text.append(x.thread(t, 3)).append(' ');
        for (int c = 0; c < 6; c++) text.append(x.may(c)).append(' ');
        return text.append(x.agrees()).append(' ').append(x.keeps()).toString();
    }

    /** The same without the errors of the threads, and what is possible then. */
    static String state(FreeShelf x) {
        StringBuilder text = new StringBuilder();
        for (int w = 0; w < 20; w++) text.append(x.word(w, 0)).append(' ').append(x.word(w, 1)).append(' ');
        for (int k = 0; k < 6; k++) text.append(x.node(k)).append(' ').append(x.local(0, k, 1)).append(' ');
        for (int t = 0; t < 3; t++) {
            for (int what = 0; what < 8; what++) if (what != 3) text.append(x.thread(t, what)).append(' ');
            text.append(x.answer(t, 0)).append(' ');
        }
        return text.append(x.epoch()).toString();
    }

    /** Much of what an object tells about its exploration. */
    static String exploration(FreeShelf x) {
        StringBuilder text = new StringBuilder();
        for (int what = 0; what < 8; what++) text.append(x.explored(what)).append(' ').append(x.first(what)).append(' ');
        for (int c = 0; c < 6; c++) text.append(x.next(0, c)).append(' ').append(x.next(1, c)).append(' ');
        return text.append(x.walk(2, 0)).append(' ').append(x.walk(2, 1)).append(' ').append(x.answers()).toString();
    }

    /** The acts and the meaning of a routine. */
    static String routine(FreeShelf x, int routine) {
        StringBuilder text = new StringBuilder();
        text.append(x.told(routine, -1, 0)).append(' ').append(x.told(routine, -1, 1)).append(' ');
        for (int place = 0; place < x.told(routine, -1, 0); place++) {
            for (int what = 0; what < 5; what++) text.append(x.told(routine, place, what)).append(' ');
        }
        return text.toString();
    }
}
