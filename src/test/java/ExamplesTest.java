/** The examples of the document and of README.md. */
public final class ExamplesTest {
    private static final Due DUE = new Due("ExamplesTest");

    public static void main(String[] args) {
        constants();
        example1();
        example2();
        example3();
        readmeAdding();
        readmeLostStep();
        DUE.close();
    }

    private static void constants() {
        DUE.is("BAD", FreeShelf.BAD, -1);
        DUE.is("NO", FreeShelf.NO, -2);
        DUE.is("FULL", FreeShelf.FULL, -3);
        DUE.is("NONE", FreeShelf.NONE, -4);
        DUE.is("SPENT", FreeShelf.SPENT, -5);
    }

    private static void example1() {
        FreeShelf x = new FreeShelf();
        DUE.is("1: act(0, 6, 0, 1, 0)", x.act(0, 6, 0, 1, 0), 1);
        DUE.is("1: act(0, 13, 5, 0, 0)", x.act(0, 13, 5, 0, 0), 2);
        DUE.is("1: means(0, 1)", x.means(0, 1), 0);
        DUE.is("1: model(3)", x.model(3), 0);
        DUE.is("1: call(0, 0, 1)", x.call(0, 0, 1), 1);
        DUE.is("1: call(1, 0, 1)", x.call(1, 0, 1), 1);
        DUE.is("1: explore()", x.explore(), 17);
        DUE.is("1: explored(1)", x.explored(1), 4);
        DUE.is("1: explored(2)", x.explored(2), 0);
        DUE.is("1: answers()", x.answers(), 2);
        DUE.is("1: begin()", x.begin(), 1);
        DUE.is("1: run(4)", x.run(4), 4);
        DUE.is("1: answer(1, 0)", x.answer(1, 0), 2);
        DUE.is("1: agrees()", x.agrees(), 1);
        DUE.is("1: word(0, 1)", x.word(0, 1), 2);
        DUE.is("1: first(0)", x.first(0), -4);
    }

    private static void example2() {
        FreeShelf x = new FreeShelf();
        DUE.is("2: act(0, 0, 0, 0, 0)", x.act(0, 0, 0, 0, 0), 1);
        DUE.is("2: act(0, 26, 0, 1, 0)", x.act(0, 26, 0, 1, 0), 2);
        DUE.is("2: act(0, 2, 0, 0, 0)", x.act(0, 2, 0, 0, 0), 3);
        DUE.is("2: act(0, 13, 0, 0, 0)", x.act(0, 13, 0, 0, 0), 4);
        DUE.is("2: call(2, 0, 5)", x.call(2, 0, 5), 1);
        DUE.is("2: begin()", x.begin(), 1);
        DUE.is("2: step(2)", x.step(2), 1);
        DUE.is("2: thread(2, 3)", x.thread(2, 3), 1);
        DUE.is("2: may(2)", x.may(2), 0);
        DUE.is("2: late(true)", x.late(true), 0);
        DUE.is("2: call(3, 1, 0)", x.call(3, 1, 0), 1);
        DUE.is("2: begin()", x.begin(), -11);
        DUE.is("2: told(1, -1, 0)", x.told(1, -1, 0), -4);
        DUE.is("2: thread(2, 3)", x.thread(2, 3), -2);
    }

    private static void example3() {
        FreeShelf x = new FreeShelf();
        DUE.is("3: act(3, 8, 1, 0, 0)", x.act(3, 8, 1, 0, 0), 1);
        DUE.is("3: act(3, 2, 0, 1, 0)", x.act(3, 2, 0, 1, 0), 2);
        DUE.is("3: act(3, 9, 1, 0, 0)", x.act(3, 9, 1, 0, 0), 3);
        DUE.is("3: act(3, 13, 1, 0, 0)", x.act(3, 13, 1, 0, 0), 4);
        DUE.is("3: manner(4)", x.manner(4), 0);
        DUE.is("3: late(true)", x.late(true), 0);
        DUE.is("3: call(0, 3, 0)", x.call(0, 3, 0), 1);
        DUE.is("3: begin()", x.begin(), 1);
        DUE.is("3: step(0)", x.step(0), 1);
        DUE.is("3: step(0)", x.step(0), 2);
        DUE.is("3: thread(0, 4)", x.thread(0, 4), 1);
        DUE.is("3: step(0)", x.step(0), 3);
        DUE.is("3: node(0)", x.node(0), 2);
        DUE.is("3: epoch()", x.epoch(), 1);
        DUE.is("3: word(0, 0)", x.word(0, 0), 2);
        DUE.is("3: step(3)", x.step(3), -2);
    }

    private static void readmeAdding() {
        FreeShelf x = new FreeShelf();
        x.act(0, 6, 0, 1, 0);
        x.act(0, 13, 5, 0, 0);
        x.means(0, 1);
        x.model(3);
        x.call(0, 0, 1);
        x.call(1, 0, 1);
        DUE.is("README 1: states", x.explore(), 17);
        DUE.is("README 1: wrong", x.explored(2), 0);
        x.begin();
        x.run(4);
        DUE.is("README 1: answer", x.answer(1, 0), 2);
    }

    private static void readmeLostStep() {
        FreeShelf x = new FreeShelf();
        x.act(0, 0, 1, 0, 0);
        x.act(0, 26, 1, 1, 0);
        x.act(0, 2, 0, 1, 0);
        x.act(0, 13, 1, 0, 0);
        x.means(0, 1);
        x.model(3);
        x.act(1, 2, 0, 0, 0);
        x.act(1, 13, 0, 0, 0);
        x.call(3, 1, 0);
        x.call(0, 0, 1);
        x.call(1, 0, 1);
        DUE.is("README 2: states", x.explore(), 34);
        DUE.is("README 2: ends", x.explored(1), 5);
        DUE.is("README 2: wrong", x.explored(2), 1);
        DUE.is("README 2: state", x.first(0), 31);
        int[] walk = {0, 1, 0, 0, 1, 1, -4};
        for (int i = 0; i < walk.length; i++) DUE.is("README 2: choice " + i, x.walk(31, i), walk[i]);
        DUE.is("README 2: length", x.go(31), 6);
        DUE.is("README 2: one", x.answer(0, 0), 1);
        DUE.is("README 2: two", x.answer(1, 0), 1);
    }
}
