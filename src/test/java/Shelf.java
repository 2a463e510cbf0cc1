/** Makes programs for the tests, row by row. */
final class Shelf {
    static final int READ = 0, LOOK = 1, WRITE = 2, LAY = 3, SWAP = 4, TURN = 5, ADD = 6, FENCE = 7, TAKE = 8, LET = 9;
    static final int GUARD = 10, ENTER = 11, LEAVE = 12, RETURN = 13;
    static final int SET = 20, BLANK = 21, COPY = 22, MARK = 23, GO = 24, SAME = 25, PLUS = 26;

    private Shelf() {
    }

    /** An act; the numbers that are not given are 0. */
    static int[] act(int op, int... numbers) {
        int[] row = {op, 0, 0, 0};
        System.arraycopy(numbers, 0, row, 1, numbers.length);
        return row;
    }

    static void routine(FreeShelf x, int routine, int[]... rows) {
        x.tear(routine, 0);
        for (int[] row : rows) {
            if (x.act(routine, row[0], row[1], row[2], row[3]) < 0) throw new IllegalStateException("a row is wrong");
        }
    }

    /** An object with routine 0 and a call of it by thread 0. */
    static FreeShelf with(int argument, int[]... rows) {
        FreeShelf x = new FreeShelf();
        routine(x, 0, rows);
        x.call(0, 0, argument);
        return x;
    }

    /** Steps of thread 0, so many. */
    static void steps(FreeShelf x, int n) {
        for (int i = 0; i < n; i++) x.step(0);
    }

    /** A routine that takes as many steps as its argument (at least 1), and one more. */
    static void countDown(FreeShelf x, int routine) {
        routine(x, routine, act(SET, 1, 0), act(FENCE), act(PLUS, 0, -1), act(SAME, 0, 1, 5), act(GO, 1), act(RETURN, 0));
    }
}
