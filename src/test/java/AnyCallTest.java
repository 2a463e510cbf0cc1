import java.util.Random;

/** Makes calls of all methods with any arguments, from fixed seeds: none may throw. */
public final class AnyCallTest {
    private static final Due DUE = new Due("AnyCallTest");
    private static final int OBJECTS = 400;
    private static final int[] FAR = {Integer.MIN_VALUE, Integer.MIN_VALUE + 1, -1000, -100, -99, -2, -1, 41, 99, 100, 101,
        1499, 1500, 1501, 100000, Integer.MAX_VALUE - 1, Integer.MAX_VALUE};

    public static void main(String[] args) {
        for (int seed = 0; seed < OBJECTS; seed++) {
            Random random = new Random(seed);
            FreeShelf x = new FreeShelf();
            int done = 0;
            try {
                for (; done < 512; done++) DUE.is("an answer in range, seed " + seed, isAnswer(any(random, x)), 1);
            } catch (RuntimeException thrown) {
                DUE.is("seed " + seed + ", call " + done + " threw " + thrown, 1, 0);
            }
        }
        DUE.close();
    }

    private static int isAnswer(int answer) {
        return answer >= -2000 && answer <= 100000 || answer == Integer.MIN_VALUE || answer >= Integer.MAX_VALUE - 1
            || answer == Integer.MIN_VALUE + 1 ? 1 : 0;
    }

    private static int far(Random random) {
        return FAR[random.nextInt(FAR.length)];
    }

    /** Mostly below a limit, seldom anything. */
    private static int in(Random random, int limit) {
        return random.nextInt(40) == 0 ? far(random) : random.nextInt(limit);
    }

    private static int any(Random random, FreeShelf x) {
        int kind = random.nextInt(60);
        if (kind < 22) return writeProgram(random, x, kind);
        if (kind < 44) return useRun(random, x, kind - 22);
        return useExploration(random, x, kind - 44);
    }

    private static int writeProgram(Random random, FreeShelf x, int kind) {
        switch (kind) {
            case 0:
                return x.tear(in(random, 6), in(random, 3) - 1);
            case 1:
                return x.means(in(random, 6), in(random, 3));
            case 2:
                return x.moment(in(random, 6), in(random, 5), random.nextBoolean());
            case 3, 4, 5:
                return x.call(in(random, 4), in(random, 6), in(random, 5));
            case 6:
                return random.nextInt(6) == 0 ? x.clear() : 0;
            case 7:
                return x.manner(in(random, 5));
            case 8:
                return x.late(random.nextBoolean());
            case 9:
                return x.model(in(random, 5));
            case 10:
                return x.told(in(random, 6), in(random, 8) - 1, in(random, 5));
            default:
                int op = random.nextInt(3) == 0 ? 13 : in(random, 27);
                return x.act(in(random, 6), op, in(random, 6), in(random, 2), in(random, 6));
        }
    }

    private static int useRun(Random random, FreeShelf x, int kind) {
        switch (kind) {
            case 0, 1:
                return x.begin();
            case 2:
                return x.run(in(random, 100));
            case 3:
                return x.may(in(random, 6));
            case 4:
                return x.word(in(random, 20), in(random, 4));
            case 5:
                return x.local(in(random, 3), in(random, 6), in(random, 4));
            case 6:
                return x.node(in(random, 6));
            case 7:
                return x.thread(in(random, 3), in(random, 8));
            case 8:
                return x.answer(in(random, 3), in(random, 3));
            case 9:
                return x.epoch();
            case 10:
                return x.agrees();
            case 11:
                return x.keeps();
            default:
                return x.step(in(random, 6));
        }
    }

    private static int useExploration(Random random, FreeShelf x, int kind) {
        switch (kind) {
            case 0:
                return x.explore();
            case 1, 2:
                return x.explored(in(random, 8));
            case 3, 4, 5, 6:
                return x.first(in(random, 9));
            case 7, 8, 9:
                return x.walk(in(random, 60), in(random, 6));
            case 10, 11:
                return x.next(in(random, 60), in(random, 6));
            case 12, 13, 14:
                return x.go(in(random, 60));
            default:
                return x.answers();
        }
    }
}
