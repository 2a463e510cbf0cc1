import java.io.IOException;
import java.util.function.IntUnaryOperator;

/** The sentences of the promises that tell the range of an argument: its ends are taken, what is beyond them is not. */
public final class ArgumentSentencesTest extends Sentences {
    public static void main(String[] args) throws IOException {
        promises2To5();
        promises6To11();
        promises13To20();
        promises25To29();
        close("ArgumentSentencesTest", args);
    }

    /** The call is refused for arguments beyond a range, and not refused for any argument in it. */
    private static void range(String quote, int low, int high, int refusal, IntUnaryOperator call) {
        sentence(quote, () -> {
            for (int n = low; n <= high; n++) holds(n + " is in the range", call.applyAsInt(n) != refusal);
            for (int n : new int[] {MIN, MIN + 1, low - 1000, low - 2, low - 1, high + 1, high + 2, high + 1000, MAX - 1, MAX}) {
                is(n + " is beyond the range", call.applyAsInt(n), refusal);
            }
        });
    }

    /** The call is refused for arguments below 0 only. */
    private static void from0(String quote, IntUnaryOperator call) {
        sentence(quote, () -> {
            for (int n : new int[] {0, 1, 5, 6, 99, 100, 101, 1499, 1500, MAX - 1, MAX}) {
                holds(n + " is in the range", call.applyAsInt(n) != BAD);
            }
            for (int n : new int[] {MIN, MIN + 1, -1500, -6, -2, -1}) {
                is(n + " is below the range", call.applyAsInt(n), BAD);
            }
        });
    }

    /** Three acts in each routine: the second of them can be a moment. */
    private static FreeShelf acts() {
        FreeShelf x = new FreeShelf();
        for (int r = 0; r < 6; r++) {
            x.act(r, SET, 0, r, 0);
            x.act(r, ADD, 0, 1, 0);
            x.act(r, RETURN, 0, 0, 0);
        }
        return x;
    }

    private static void promises2To5() {
        range("The act is no moment. - `routine`: 0 to 5", 0, 5, BAD, n -> acts().act(n, FENCE, 0, 0, 0));
        range("Shortens a routine, or makes it missing. - `routine`: 0 to 5", 0, 5, BAD, n -> acts().tear(n, 0));
        range("`n`: how many of its first acts are kept, 0 to their number", -1, 3, BAD, n -> acts().tear(1, n));
        range("Sets what a routine means. - `routine`: 0 to 5", 0, 5, BAD, n -> acts().means(n, 1));
        range("`what`: 0 to 2", 0, 2, BAD, n -> acts().means(1, n));
        range("Marks an act as a moment, or not. - `routine`: 0 to 5", 0, 5, BAD, n -> acts().moment(n, 1, true));
        range("`place`: number of the act - `is`: true: it is a moment; false: it is not", 1, 1, BAD,
            n -> acts().moment(4, n, true));
    }

    private static void promises6To11() {
        range("Adds a call to a thread, as its last one. - `thread`: 0 to 2, or 3 for a start call", 0, 3, BAD,
            n -> acts().call(n, 0, 0));
        range("or 3 for a start call - `routine`: 0 to 5", 0, 5, BAD, n -> acts().call(3, n, 0));
        range("`routine`: 0 to 5 - `argument`: -99 to 99", -99, 99, BAD, n -> acts().call(2, 5, n));
        range("Sets the manner. - `m`: 0 to 4", 0, 4, BAD, n -> acts().manner(n));
        range("Sets the model. - `m`: 0 to 4", 0, 4, BAD, n -> acts().model(n));
        range("Returns something about a routine. - `routine`: 0 to 5", 0, 5, NO_NUMBER, n -> acts().told(n, 2, 0));
        range("`place`: number of an act, or -1 for the routine itself", -1, 2, NO_NUMBER, n -> acts().told(3, n, 0));
        range("`what`: for an act 0: operation; 1 to 3: a, b, c; 4: 1 if it is a moment, else 0", 0, 4, NO_NUMBER,
            n -> acts().told(3, 1, n));
        range("(NONE if it is missing); 1: what it means", 0, 1, NO_NUMBER, n -> acts().told(3, -1, n));
    }

    /** A run in which all six choices are possible. */
    private static FreeShelf run() {
        FreeShelf x = Shelf.with(5, act(WRITE, 0, 0), act(FENCE));
        for (int t = 1; t < 3; t++) x.call(t, 0, 5);
        x.late(true);
        choices(x, 0, 1, 2);
        return x;
    }

    private static void promises13To20() {
        range("Makes a choice in the run. - `choice`: 0 to 5", 0, 5, BAD, n -> run().step(n));
        range("Tells whether a choice is possible in the run. - `choice`: 0 to 5", 0, 5, BAD, n -> run().may(n));
        range("`n`: 1 to 100", 1, 100, BAD, n -> run().run(n));
        FreeShelf x = run();
        range("Returns something about a word in the run. - `w`: a global, 0 to 7; or 8 + 2 * k + f for field f of node k",
            0, 19, NO_NUMBER, n -> x.word(n, 0));
        range("for field f of node k - `what`: 0: 0 if it holds nothing, 1 a number, 2 a node; 1: the number or node", 0, 3,
            NO_NUMBER, n -> x.word(0, n));
        range("Returns something about a local in the run. - `thread`: 0 to 2", 0, 2, NO_NUMBER, n -> x.local(n, 0, 0));
        range("`l`: the local, 0 to 5", 0, 5, NO_NUMBER, n -> x.local(0, n, 0));
        range("the local, 0 to 5 - `what`: 0: 0 if it is nothing, 1 a number, 2 a node; 1: the number or node", 0, 3,
            NO_NUMBER, n -> x.local(0, 0, n));
        range("`k`: the node, 0 to 5", 0, 5, BAD, n -> x.node(n));
        range("`t`: 0 to 2", 0, 2, BAD, n -> x.thread(n, 0));
        range("`what`: 0: the number of its calls that are over; 1: 1 if a call is begun, else 0", 0, 7, BAD,
            n -> x.thread(0, n));
        range("Returns the answer of a call in the run. - `thread`: 0 to 2", 0, 2, NO_NUMBER, n -> x.answer(n, 0));
        range("`i`: index of the call, 0 to 2", 0, 2, NO_NUMBER, n -> x.answer(0, n));
    }

    private static void promises25To29() {
        FreeShelf x = Shelf.with(5, act(FENCE), act(FENCE), act(RETURN, 0));
        x.explore();
        range("`what`: 0: states; 1: ends; 2: ends that do not agree", 0, 7, BAD, n -> x.explored(n));
        from0("`what`: 0: it is an end that does not agree", n -> x.first(n));
        range("Returns a choice of the walk to a state of the latest exploration. - `state`: number of the state", 0, 3, NO,
            n -> x.walk(n, 0));
        from0("`i`: index of the choice, from 0", n -> x.walk(3, n));
        range("Returns where a choice leads in the latest exploration. - `state`: number of the state", 0, 3, NO,
            n -> x.next(n, 0));
        range("`choice`: 0 to 5 Returns the number of the state to which it leads", 0, 5, BAD, n -> x.next(0, n));
        range("`state`: number of the state Returns the length of its walk", 0, 3, NO, n -> x.go(n));
        sentence("index of the choice, from 0 Returns the choice", () -> {
            for (int i = 0; i < 3; i++) is("choice " + i, x.walk(3, i), 0);
            is("as far as the walk goes", x.walk(3, 3), NONE);
            is("as far as numbers go", x.walk(3, MAX), NONE);
        });
        sentence("6 + n: not the lowest one, but the n-th end, n from 0 on Returns its number", () -> {
            is("end 0", x.first(6), 3);
            is("no end 1", x.first(7), NONE);
            is("as far as numbers go", x.first(MAX), NONE);
        });
    }
}
