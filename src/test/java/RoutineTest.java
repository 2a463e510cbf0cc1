/** Promises 1 to 11: a new object, routines and programs. */
public final class RoutineTest {
    private static final Due DUE = new Due("RoutineTest");
    private static final int MIN = Integer.MIN_VALUE, MAX = Integer.MAX_VALUE;

    // How the operations use their numbers: l local, g global, b field, guard or mark, n number, p act, - not at all.
    private static final String[] USES = {
        "0 lg-", "1 llb", "2 gl-", "3 lbl", "4 gll", "5 lll", "6 gn-", "7 ---", "8 l--", "9 l--", "10 bl-", "11 ---",
        "12 ---", "13 l--", "20 ln-", "21 l--", "22 ll-", "23 lb-", "24 p--", "25 llp", "26 ln-",
    };

    public static void main(String[] args) {
        promise1();
        promise2Numbers();
        promise2Room();
        promise3();
        promise4();
        promise5();
        promise6();
        promise7();
        promise8To10();
        promise11();
        DUE.close();
    }

    private static void promise1() {
        FreeShelf x = new FreeShelf();
        for (int r = 0; r < 6; r++) {
            DUE.is("1: no acts", x.told(r, -1, 0), -4);
            DUE.is("1: no meaning", x.told(r, -1, 1), 0);
        }
        DUE.is("1: no run", x.may(0), -2);
        DUE.is("1: no exploration", x.explored(0), -2);
        DUE.is("1: no calls", x.clear(), 0);
        DUE.is("1: manner", x.manner(0), 0);
        DUE.is("1: ordered", x.late(false), 0);
        DUE.is("1: no model", x.model(0), 0);
        new FreeShelf().act(0, 7, 0, 0, 0);
        DUE.is("1: objects are apart", new FreeShelf().told(0, -1, 0), -4);
    }

    private static int lowest(char use) {
        return use == 'n' ? -99 : use == '-' ? MIN : 0;
    }

    private static int highest(char use) {
        return switch (use) {
            case 'l' -> 5;
            case 'g' -> 7;
            case 'b' -> 1;
            case 'n' -> 99;
            case 'p' -> 40;
            default -> MAX;
        };
    }

    private static void promise2Numbers() {
        for (String row : USES) {
            int op = Integer.parseInt(row.substring(0, row.indexOf(' ')));
            String uses = row.substring(row.indexOf(' ') + 1);
            for (int i = 0; i < 3; i++) {
                int low = lowest(uses.charAt(i));
                int high = highest(uses.charAt(i));
                tryNumber(op, i, low, true);
                tryNumber(op, i, high, true);
                if (low == MIN) continue;
                tryNumber(op, i, low - 1, false);
                tryNumber(op, i, high + 1, false);
                tryNumber(op, i, MIN, false);
                tryNumber(op, i, MAX, false);
            }
        }
        for (int op : new int[] {MIN, -1, 14, 15, 19, 27, 30, MAX}) {
            DUE.is("2: op " + op, new FreeShelf().act(0, op, 0, 0, 0), -1);
        }
    }

    private static void tryNumber(int op, int position, int number, boolean allowed) {
        FreeShelf x = new FreeShelf();
        int[] n = new int[3];
        n[position] = number;
        String call = "2: act(5, " + op + ", " + n[0] + ", " + n[1] + ", " + n[2] + ")";
        DUE.is(call, x.act(5, op, n[0], n[1], n[2]), allowed ? 1 : -1);
        DUE.is(call + " acts", x.told(5, -1, 0), allowed ? 1 : -4);
        DUE.is(call + " kept", x.told(5, 0, 1 + position), allowed ? number : -1000);
    }

    private static void promise2Room() {
        FreeShelf x = new FreeShelf();
        for (int i = 1; i <= 30; i++) DUE.is("2: act " + i, x.act(2, 20, 3, i, 0), i);
        DUE.is("2: no room", x.act(2, 20, 3, 31, 0), -3);
        DUE.is("2: BAD before FULL", x.act(2, 20, 6, 31, 0), -1);
        DUE.is("2: BAD before FULL", x.act(2, 14, 0, 0, 0), -1);
        for (int r : new int[] {MIN, -1, 6, MAX}) DUE.is("2: routine " + r, x.act(r, 7, 0, 0, 0), -1);
        DUE.is("2: 30 acts", x.told(2, -1, 0), 30);
        DUE.is("2: the last", x.told(2, 29, 2), 30);
        DUE.is("2: other routines have room", x.act(3, 7, 0, 0, 0), 1);
        x.tear(2, 29);
        DUE.is("2: room again", x.act(2, 21, 1, 0, 0), 30);
    }

    private static void promise3() {
        FreeShelf x = new FreeShelf();
        DUE.is("3: missing", x.tear(1, -1), 0);
        DUE.is("3: too many", x.tear(1, 1), -1);
        DUE.is("3: still missing", x.told(1, -1, 0), -4);
        DUE.is("3: to 0", x.tear(1, 0), 0);
        DUE.is("3: not missing", x.told(1, -1, 0), 0);
        Shelf.routine(x, 1, Shelf.act(0, 1, 2), Shelf.act(6, 3, 4), Shelf.act(13, 5));
        x.moment(1, 1, true);
        x.means(1, 2);
        DUE.is("3: too many", x.tear(1, 4), -1);
        DUE.is("3: too few", x.tear(1, -2), -1);
        DUE.is("3: as many", x.tear(1, 3), 3);
        DUE.is("3: to 1", x.tear(1, 1), 3);
        DUE.is("3: one left", x.told(1, -1, 0), 1);
        DUE.is("3: the first stays", x.told(1, 0, 2), 2);
        DUE.is("3: the second is gone", x.told(1, 1, 0), -1000);
        DUE.is("3: no longer there", x.tear(1, 2), -1);
        x.act(1, 6, 3, 4, 0);
        DUE.is("3: a new act is no moment", x.told(1, 1, 4), 0);
        DUE.is("3: away", x.tear(1, -1), 2);
        DUE.is("3: missing again", x.told(1, -1, 0), -4);
        DUE.is("3: its meaning stays", x.told(1, -1, 1), 2);
        DUE.is("3: an act again", x.act(1, 7, 0, 0, 0), 1);
        for (int r : new int[] {MIN, -1, 6, MAX}) DUE.is("3: routine " + r, x.tear(r, 0), -1);
        DUE.is("3: MIN", x.tear(1, MIN), -1);
        DUE.is("3: MAX", x.tear(1, MAX), -1);
    }

    private static void promise4() {
        FreeShelf x = new FreeShelf();
        DUE.is("4: before", x.means(5, 2), 0);
        DUE.is("4: before", x.means(5, 1), 2);
        DUE.is("4: before", x.means(5, 0), 1);
        DUE.is("4: before", x.means(5, 1), 0);
        DUE.is("4: too low", x.means(5, -1), -1);
        DUE.is("4: too high", x.means(5, 3), -1);
        DUE.is("4: no routine", x.means(6, 1), -1);
        DUE.is("4: no routine", x.means(-1, 1), -1);
        DUE.is("4: unchanged", x.told(5, -1, 1), 1);
        DUE.is("4: others", x.told(4, -1, 1), 0);
    }

    private static void promise5() {
        FreeShelf x = new FreeShelf();
        int[] ops = {0, 1, 2, 3, 4, 5, 6, 7, 8, 9, 10, 11, 12, 13, 20, 21, 22, 23, 24, 25, 26};
        for (int i = 0; i < ops.length; i++) {
            x.act(0, ops[i], 0, 0, 0);
            boolean can = ops[i] <= 6;
            DUE.is("5: op " + ops[i], x.moment(0, i, true), can ? 0 : -1);
            DUE.is("5: op " + ops[i] + " told", x.told(0, i, 4), can ? 1 : 0);
        }
        DUE.is("5: again", x.moment(0, 6, true), 1);
        DUE.is("5: off", x.moment(0, 6, false), 1);
        DUE.is("5: off again", x.moment(0, 6, false), 0);
        DUE.is("5: its neighbour", x.told(0, 5, 4), 1);
        DUE.is("5: off, but not possible", x.moment(0, 7, false), -1);
        DUE.is("5: no act", x.moment(0, 21, true), -1);
        DUE.is("5: place -1", x.moment(0, -1, true), -1);
        DUE.is("5: place MIN", x.moment(0, MIN, true), -1);
        DUE.is("5: place MAX", x.moment(0, MAX, true), -1);
        DUE.is("5: missing", x.moment(1, 0, true), -1);
        DUE.is("5: routine -1", x.moment(-1, 0, true), -1);
        DUE.is("5: routine 6", x.moment(6, 0, true), -1);
        x.tear(0, 3);
        DUE.is("5: torn off", x.moment(0, 3, true), -1);
    }

    private static void promise6() {
        FreeShelf x = new FreeShelf();
        DUE.is("6: first", x.call(0, 5, -99), 1);
        DUE.is("6: second", x.call(0, 0, 99), 2);
        DUE.is("6: third", x.call(0, 0, 0), 3);
        DUE.is("6: fourth", x.call(0, 0, 0), -3);
        DUE.is("6: BAD before FULL", x.call(0, 6, 0), -1);
        DUE.is("6: BAD before FULL", x.call(0, 0, -100), -1);
        DUE.is("6: other thread", x.call(1, 0, 0), 1);
        DUE.is("6: other thread", x.call(2, 0, 0), 1);
        DUE.is("6: sixth", x.call(2, 0, 0), 2);
        DUE.is("6: seventh", x.call(2, 0, 0), -3);
        DUE.is("6: seventh", x.call(1, 0, 0), -3);
        for (int i = 1; i <= 4; i++) DUE.is("6: start call", x.call(3, 0, 0), i);
        DUE.is("6: fifth start call", x.call(3, 0, 0), -3);
        DUE.is("6: thread -1", x.call(-1, 0, 0), -1);
        DUE.is("6: thread 4", x.call(4, 0, 0), -1);
        DUE.is("6: routine -1", x.call(1, -1, 0), -1);
        DUE.is("6: argument 100", x.call(1, 0, 100), -1);
        DUE.is("6: argument MIN", x.call(1, 0, MIN), -1);
        DUE.is("6: argument MAX", x.call(1, 0, MAX), -1);
        DUE.is("6: unchanged", x.clear(), 10);
    }

    private static void promise7() {
        FreeShelf x = new FreeShelf();
        x.call(3, 0, 0);
        x.call(2, 0, 0);
        x.call(2, 0, 0);
        DUE.is("7: three", x.clear(), 3);
        DUE.is("7: none", x.clear(), 0);
        DUE.is("7: nothing to begin", x.begin(), -2);
        DUE.is("7: numbered anew", x.call(2, 0, 0), 1);
        x.act(0, 13, 0, 0, 0);
        x.begin();
        DUE.is("7: one", x.clear(), 1);
        DUE.is("7: the run stays", x.may(2), 1);
        DUE.is("7: the run goes on", x.step(2), 1);
    }

    private static void promise8To10() {
        FreeShelf x = new FreeShelf();
        for (int m = 1; m <= 4; m++) {
            DUE.is("8: manner", x.manner(m), m - 1);
            DUE.is("10: model", x.model(m), m - 1);
        }
        for (int m : new int[] {MIN, -1, 5, MAX}) {
            DUE.is("8: manner " + m, x.manner(m), -1);
            DUE.is("10: model " + m, x.model(m), -1);
        }
        DUE.is("8: unchanged", x.manner(0), 4);
        DUE.is("10: unchanged", x.model(0), 4);
        DUE.is("9: was ordered", x.late(true), 0);
        DUE.is("9: was late", x.late(true), 1);
        DUE.is("9: was late", x.late(false), 1);
        DUE.is("9: was ordered", x.late(false), 0);
    }

    private static void promise11() {
        FreeShelf x = new FreeShelf();
        x.act(4, 25, 1, 2, 3);
        x.act(4, 7, -7, MAX, MIN);
        x.act(4, 3, 4, 1, 5);
        x.moment(4, 2, true);
        x.means(4, 1);
        int[][] due = {{25, 1, 2, 3, 0}, {7, -7, MAX, MIN, 0}, {3, 4, 1, 5, 1}};
        for (int place = 0; place < 3; place++) {
            for (int what = 0; what < 5; what++) DUE.is("11: act", x.told(4, place, what), due[place][what]);
            DUE.is("11: what 5", x.told(4, place, 5), -1000);
            DUE.is("11: what -1", x.told(4, place, -1), -1000);
        }
        DUE.is("11: acts", x.told(4, -1, 0), 3);
        DUE.is("11: meaning", x.told(4, -1, 1), 1);
        for (int what : new int[] {MIN, -1, 2, 3, 4, MAX}) DUE.is("11: what " + what, x.told(4, -1, what), -1000);
        DUE.is("11: no act", x.told(4, 3, 0), -1000);
        DUE.is("11: no act", x.told(4, -2, 0), -1000);
        DUE.is("11: no act", x.told(4, MAX, 0), -1000);
        DUE.is("11: missing", x.told(3, 0, 0), -1000);
        DUE.is("11: missing", x.told(3, -1, 0), -4);
        DUE.is("11: routine -1", x.told(-1, -1, 0), -1000);
        DUE.is("11: routine 6", x.told(6, -1, 1), -1000);
    }
}
