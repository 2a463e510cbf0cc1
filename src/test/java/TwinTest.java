import java.util.Random;

/**
 * Makes calls of all methods in any order, from fixed seeds, and compares every answer with that of the Twin: programs
 * change while there are runs and explorations, which begin, fail, end and begin again, with arguments right and wrong.
 */
public final class TwinTest {
    private static final Due DUE = new Due("TwinTest");
    private static final int OBJECTS = 260, CALLS = 512;
    private static final int[] FAR = {Integer.MIN_VALUE, -1000, -100, -2, -1, 3, 4, 6, 7, 8, 20, 41, 100, 101, 1500,
        Integer.MAX_VALUE};

    private final Random random;
    private final FreeShelf x = new FreeShelf();
    private final Twin twin = new Twin();
    private final String name;
    private int done = 0;

    private TwinTest(int seed) {
        random = new Random(seed);
        name = "object " + seed;
    }

    public static void main(String[] args) {
        for (int seed = 0; seed < OBJECTS && DUE.wrong() < 20; seed++) new TwinTest(seed).useUp();
        DUE.close();
    }

    /** As many calls as an object is good for. */
    private void useUp() {
        boolean lively = random.nextBoolean();
        setUp();
        while (done < CALLS && DUE.wrong() < 20) {
            int kind = random.nextInt(100);
            if (kind < (lively ? 3 : 1)) setUp();
            else if (kind < (lively ? 14 : 6)) change();
            else if (kind < 22) start();
            else if (kind < 50) choose();
            else if (kind < 75) askRun();
            else askExploration();
        }
    }

    private void is(String call, int got, int want) {
        done++;
        DUE.is(name + ", call " + done + ": " + call, got, want);
    }

    /** Mostly below a limit, seldom anything. */
    private int in(int limit) {
        return random.nextInt(25) == 0 ? FAR[random.nextInt(FAR.length)] : random.nextInt(limit);
    }

    // ---- programs

    /** Other routines that do something, and calls of them. */
    private void setUp() {
        is("clear()", x.clear(), twin.clear());
        for (int i = random.nextInt(3); i < 3; i++) {
            int r = random.nextInt(6);
            is("tear(" + r + ", 0)", x.tear(r, 0), twin.tear(r, 0));
            for (int[] row : ReferenceTest.KNOWN[random.nextInt(ReferenceTest.KNOWN.length)]) act(r, row);
            is("means", x.means(r, (r + i) % 3), twin.means(r, (r + i) % 3));
            for (int place = 0; place < 6; place++) if (random.nextInt(3) > 0) moment(r, place, true);
            for (int n = random.nextInt(3); n > 0; n--) call(random.nextInt(3), r, random.nextInt(3));
            if (random.nextInt(4) == 0) call(3, r, random.nextInt(5) - 2);
        }
        if (random.nextInt(4) == 0) call(random.nextInt(4), random.nextInt(6), random.nextInt(5) - 2);
        for (int n = random.nextInt(3); n > 0; n--) change();
    }

    private void act(int r, int[] row) {
        is("act", x.act(r, row[0], row[1], row[2], row[3]), twin.act(r, row[0], row[1], row[2], row[3]));
    }

    private void call(int t, int r, int argument) {
        is("call(" + t + ", " + r + ", " + argument + ")", x.call(t, r, argument), twin.call(t, r, argument));
    }

    private void moment(int r, int place, boolean is) {
        is("moment(" + r + ", " + place + ", " + is + ")", x.moment(r, place, is), twin.moment(r, place, is));
    }

    private void change() {
        int r = in(6);
        switch (random.nextInt(12)) {
            case 0 -> act(r, ReferenceTest.anyAct(random));
            case 1 -> act(r, new int[] {in(27), in(6), in(6), in(6)});
            case 2 -> act(r, new int[] {13, in(6), 0, 0});
            case 3 -> {
                int n = random.nextInt(3) == 0 ? in(12) - 1 : 0;
                is("tear(" + r + ", " + n + ")", x.tear(r, n), twin.tear(r, n));
            }
            case 4 -> {
                int what = in(3);
                is("means(" + r + ", " + what + ")", x.means(r, what), twin.means(r, what));
            }
            case 5, 6 -> moment(r, in(10), random.nextInt(3) > 0);
            case 7, 8 -> call(in(4), r, in(100) - random.nextInt(100));
            case 9 -> {
                int m = in(5);
                is("manner(" + m + ")", x.manner(m), twin.manner(m));
            }
            case 10 -> {
                boolean is = random.nextInt(3) == 0;
                is("late(" + is + ")", x.late(is), twin.late(is));
            }
            default -> {
                int m = in(5);
                is("model(" + m + ")", x.model(m), twin.model(m));
            }
        }
        int place = in(14) - 1;
        int what = in(5);
        is("told(" + r + ", " + place + ", " + what + ")", x.told(r, place, what), twin.told(r, place, what));
    }

    // ---- a run

    private void start() {
        int kind = random.nextInt(8);
        if (kind == 0) {
            // The second time nothing may be left of the first.
            for (int n = random.nextInt(3); n < 3; n += 2) is("explore()", x.explore(), twin.explore());
            askExploration();
        } else if (kind < 4) {
            is("begin()", x.begin(), twin.begin());
        } else {
            int state = in(kind == 4 ? 400 : 30);
            is("go(" + state + ")", x.go(state), twin.go(state));
        }
    }

    private void choose() {
        if (random.nextInt(10) == 0) {
            int n = random.nextInt(4) == 0 ? in(101) : in(8);
            is("run(" + n + ")", x.run(n), twin.run(n));
            return;
        }
        int choice = in(6);
        is("may(" + choice + ")", x.may(choice), twin.may(choice));
        is("step(" + choice + ")", x.step(choice), twin.step(choice));
    }

    private void askRun() {
        int what = in(4);
        switch (random.nextInt(9)) {
            case 0, 1 -> {
                int w = in(20);
                is("word(" + w + ", " + what + ")", x.word(w, what), twin.word(w, what));
            }
            case 2, 3 -> {
                int t = in(3);
                int l = in(6);
                is("local(" + t + ", " + l + ", " + what + ")", x.local(t, l, what), twin.local(t, l, what));
            }
            case 4 -> {
                int k = in(6);
                is("node(" + k + ")", x.node(k), twin.node(k));
            }
            case 5, 6 -> {
                int t = in(3);
                int of = in(8);
                is("thread(" + t + ", " + of + ")", x.thread(t, of), twin.thread(t, of));
            }
            case 7 -> {
                int t = in(3);
                int i = in(3);
                is("answer(" + t + ", " + i + ")", x.answer(t, i), twin.answer(t, i));
            }
            default -> {
                is("epoch()", x.epoch(), twin.epoch());
                is("agrees()", x.agrees(), twin.agrees());
                is("keeps()", x.keeps(), twin.keeps());
            }
        }
    }

    // ---- exploration

    private void askExploration() {
        int state = in(random.nextInt(3) == 0 ? 300 : 20);
        switch (random.nextInt(5)) {
            case 0 -> {
                int what = in(8);
                is("explored(" + what + ")", x.explored(what), twin.explored(what));
            }
            case 1 -> {
                int what = in(9);
                is("first(" + what + ")", x.first(what), twin.first(what));
            }
            case 2 -> {
                int i = in(8);
                is("walk(" + state + ", " + i + ")", x.walk(state, i), twin.walk(state, i));
            }
            case 3 -> {
                int choice = in(6);
                is("next(" + state + ", " + choice + ")", x.next(state, choice), twin.next(state, choice));
            }
            default -> is("answers()", x.answers(), twin.answers());
        }
    }
}
