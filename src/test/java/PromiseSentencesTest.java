import java.io.IOException;
import java.util.HashSet;
import java.util.Set;

/** The sentences of the promises that name a boundary case, in their order. */
public final class PromiseSentencesTest extends Sentences {
    private static final int[] OPERATIONS = {0, 1, 2, 3, 4, 5, 6, 7, 8, 9, 10, 11, 12, 13, 20, 21, 22, 23, 24, 25, 26};

    public static void main(String[] args) throws IOException {
        promises1To3();
        promises4To7();
        promises8To11();
        promises12To15();
        promises16To20();
        promises21To25();
        promises26To30();
        close("PromiseSentencesTest", args);
    }

    private static void promises1To3() {
        sentence("Creates a laboratory in which all routines are missing and mean nothing, without calls, with manner 0,"
            + " ordered memory and no model; there is no run and no exploration.", PromiseSentencesTest::newObject);
        sentence("A missing routine has no acts before, and is not missing after that.",
            PromiseSentencesTest::actOfMissing);
        sentence("The act is no moment.", PromiseSentencesTest::actIsNoMoment);
        sentence("`op`: the operation, 0 to 13 or 20 to 26", PromiseSentencesTest::operations);
        sentence("(numbers that the operation does not use can have any value)", PromiseSentencesTest::unusedNumbers);
        sentence("BAD if routine or op is out of range", PromiseSentencesTest::actBadRoutine);
        sentence("or a number that the operation uses is not, as it is used, a local 0 to 5",
            () -> numbersOf('l', 0, 5));
        sentence("a global 0 to 7, a field", () -> numbersOf('g', 0, 7));
        sentence("a field, guard or mark 0 to 1", () -> numbersOf('b', 0, 1));
        sentence("a number -99 to 99, or", () -> numbersOf('n', -99, 99));
        sentence("or an act to go on at, 0 to 40", () -> numbersOf('p', 0, 40));
        sentence("FULL if the routine has 30 acts.", PromiseSentencesTest::actFull);
        sentence("`n`: how many of its first acts are kept, 0 to their number (the routine is not missing then, even if it"
            + " was); -1 to make it missing", PromiseSentencesTest::tearKept);
        sentence("Returns the number of acts that it had (0 if it was missing); BAD if routine or n is out of range.",
            PromiseSentencesTest::tearHad);
    }

    private static void promises4To7() {
        sentence("Returns what it meant before; BAD if an argument is out of range.", PromiseSentencesTest::means);
        sentence("Returns 1 if it was a moment before, else 0; BAD if there is no such routine or act, or its operation is"
            + " not 0 to 6.", PromiseSentencesTest::moment);
        sentence("`thread`: 0 to 2, or 3 for a start call", PromiseSentencesTest::callThread);
        sentence("`argument`: -99 to 99", PromiseSentencesTest::callArgument);
        sentence("Returns the number of calls of this thread; BAD if an argument is out of range; FULL if it has 3 calls"
            + " (4 start calls)", PromiseSentencesTest::callNumber);
        sentence("or the threads 0 to 2 have 6 calls together and thread is one of them.",
            PromiseSentencesTest::callSixTogether);
        sentence("Removes all calls, also the start calls.", PromiseSentencesTest::clearAll);
        sentence("Returns how many there were.", PromiseSentencesTest::clearNumber);
    }

    private static void promises8To11() {
        sentence("Returns the previous manner; BAD if m is out of range.", PromiseSentencesTest::manner);
        sentence("Returns 1 if it was late before, else 0.", PromiseSentencesTest::late);
        sentence("Returns the previous model; BAD if m is out of range.", PromiseSentencesTest::model);
        sentence("for the routine itself 0: the number of its acts (NONE if it is missing); 1: what it means",
            PromiseSentencesTest::toldOfRoutine);
        sentence("Returns that number; -1000 if there is no such routine or act, or what is out of range.",
            PromiseSentencesTest::toldBad);
    }

    private static void promises12To15() {
        sentence("Returns 1; NO if the threads 0 to 2 have no calls; -10 - e if a start call meets the error e (there is no"
            + " run then).", PromiseSentencesTest::begin);
        sentence("Returns the number of choices that have been made; BAD if choice is out of range",
            PromiseSentencesTest::stepNumber);
        sentence("NO if there is no run, or the choice is not possible", PromiseSentencesTest::stepNo);
        sentence("FULL if 100 choices have been made.", PromiseSentencesTest::stepFull);
        sentence("Returns 1 if it is, else 0; BAD if choice is out of range; NO if there is no run.",
            PromiseSentencesTest::may);
        sentence("always the first possible one after the one that was made last, in ascending order and cyclically"
            + " (beginning with 0 if none was made)", PromiseSentencesTest::runInTurn);
        sentence("until no choice is possible, n choices are made, or 100 choices have been made in the run.",
            PromiseSentencesTest::runUntil);
        sentence("`n`: 1 to 100 .. Returns the number of choices that are made; BAD if n is out of range; NO if there is no"
            + " run.", PromiseSentencesTest::runNumber);
    }

    private static void promises16To20() {
        sentence("`w`: a global, 0 to 7; or 8 + 2 * k + f for field f of node k", PromiseSentencesTest::wordNumbers);
        sentence("`what`: 0: 0 if it holds nothing, 1 a number, 2 a node; 1: the number or node (0 for nothing); 2: its"
            + " mark (0 for nothing); 3: its count", PromiseSentencesTest::wordParts);
        sentence("Returns that number; -1000 if w or what is out of range; -2000 if there is no run.",
            PromiseSentencesTest::wordBad);
        sentence("`what`: 0: 0 if it is nothing, 1 a number, 2 a node; 1: the number or node (0 for nothing); 2: its mark"
            + " (0 for nothing); 3: its count", PromiseSentencesTest::localParts);
        sentence("Returns that number; -1000 if an argument is out of range; -2000 if there is no run.",
            PromiseSentencesTest::localBad);
        sentence("Returns 0: it is free; 1: it is taken; 2: it is released and not free; BAD if k is out of range; NO if"
            + " there is no run.", PromiseSentencesTest::node);
        sentence("2: the act at which it stands (0 if no call is begun); 3: the error that it has met (0 if none)",
            PromiseSentencesTest::threadPlace);
        sentence("4: the number of writes in its buffer; 5, 6: guard 0, 1 (NONE if none); 7: the epoch with which it is"
            + " inside (NONE if it is not)", PromiseSentencesTest::threadBuffer);
        sentence("Returns that number; BAD if t or what is out of range; NO if there is no run.",
            PromiseSentencesTest::threadBad);
        sentence("Returns the answer; NONE if the call is not over, or there is none (an answer can also be this number)",
            PromiseSentencesTest::answerNone);
        sentence("-1000 if an argument is out of range; -2000 if there is no run.", PromiseSentencesTest::answerBad);
    }

    private static void promises21To25() {
        sentence("Returns the epoch; NO if there is no run.", PromiseSentencesTest::epoch);
        sentence("Returns 1 if it agrees, else 0; NO if there is no run, or it is at no end.",
            PromiseSentencesTest::agrees);
        sentence("Returns 1 if it does, else 0; NO if there is no run, it is at no end, or there is no model.",
            PromiseSentencesTest::keeps);
        sentence("At most 12 explorations are possible, including those that end because of an error of a start call.",
            PromiseSentencesTest::twelveExplorations);
        sentence("Returns the number of states; SPENT if the exploration is incomplete",
            PromiseSentencesTest::exploreNumber);
        sentence("NO if the threads 0 to 2 have no calls; FULL if 12 explorations have been made",
            PromiseSentencesTest::exploreNo);
        sentence("-10 - e if a start call meets the error e (there is no exploration then, not even an earlier one).",
            PromiseSentencesTest::exploreError);
        sentence("Returns a figure of the latest exploration.", PromiseSentencesTest::latestExploration);
        sentence("3: ends that do not keep the moments (0 without a model)", PromiseSentencesTest::exploredMoments);
        sentence("4: pairs of a state and a possible choice that leads to a kept state",
            PromiseSentencesTest::exploredPairs);
        sentence("0: states; 1: ends; 2: ends that do not agree", PromiseSentencesTest::exploredEnds);
        sentence("5: states in which some thread has met an error", PromiseSentencesTest::exploredErrors);
        sentence("6: the greatest number of nodes that are released and not free in a state; 7: 1 if it is incomplete,"
            + " else 0", PromiseSentencesTest::exploredNodes);
        sentence("Returns the figure; BAD if what is out of range; NO if there is no exploration.",
            PromiseSentencesTest::exploredBad);
    }

    private static void promises26To30() {
        sentence("the one with the lowest number that has a property.", PromiseSentencesTest::firstOfSeveral);
        sentence("2: some thread has met an error; 3: some thread cannot finish alone from it; 4: it is in a cycle",
            PromiseSentencesTest::firstErrorStuckCycle);
        sentence("1: it is an end that does not keep the moments (none without a model)",
            PromiseSentencesTest::firstMoments);
        sentence("5: as many nodes as the method explored says for 6 are released and not free in it",
            PromiseSentencesTest::firstNodes);
        sentence("6 + n: not the lowest one, but the n-th end, n from 0 on", PromiseSentencesTest::firstEnds);
        sentence("Returns its number; NONE if there is none; BAD if what is negative; NO if there is no exploration.",
            PromiseSentencesTest::firstNone);
        sentence("Returns the choice; NONE if the walk is not so long; BAD if i is negative; NO if there is no exploration"
            + " or no such state.", PromiseSentencesTest::walk);
        sentence("NONE if it is not possible, or leads to a state that is not kept; BAD if choice is out of range; NO if"
            + " there is no exploration or no such state.", PromiseSentencesTest::next);
        sentence("with the program of the exploration, as if the choices of its walk had been made.",
            PromiseSentencesTest::goOn);
        sentence("Returns the length of its walk; NO if there is no exploration or no such state",
            PromiseSentencesTest::goNo);
        sentence("FULL if the walk is longer than 100.", PromiseSentencesTest::goFull);
        sentence("how many different sequences of answers (of all calls of threads 0 to 2) there are in ends that agree.",
            PromiseSentencesTest::differentAnswers);
        sentence("Returns the number; NO if there is no exploration.", PromiseSentencesTest::answersNo);
    }

    private static void newObject() {
        FreeShelf x = new FreeShelf();
        for (int r = 0; r < 6; r++) {
            is("missing", x.told(r, -1, 0), NONE);
            is("means nothing", x.told(r, -1, 1), 0);
            is("no acts", x.tear(r, -1), 0);
        }
        is("no run", x.may(0), NO);
        is("no run", x.word(0, 0), NO_RUN);
        is("no exploration", x.explored(0), NO);
        is("no exploration", x.go(0), NO);
        is("no calls", x.begin(), NO);
        is("no calls", x.clear(), 0);
        is("manner 0", x.manner(4), 0);
        is("ordered memory", x.late(true), 0);
        is("no model", x.model(4), 0);
        FreeShelf y = new FreeShelf();
        is("another object", y.manner(0) + y.late(false) + y.model(0), 0);
    }

    private static void actOfMissing() {
        FreeShelf x = new FreeShelf();
        for (int r = 0; r < 6; r++) {
            is("missing", x.told(r, -1, 0), NONE);
            is("the first act", x.act(r, SET, 1, r, 0), 1);
            is("one act", x.told(r, -1, 0), 1);
            is("it is act 0", x.told(r, 0, 2), r);
            is("the next", x.act(r, FENCE, 0, 0, 0), 2);
            x.tear(r, -1);
            is("missing again: the first act", x.act(r, SET, 1, 9, 0), 1);
            is("nothing of before", x.told(r, 1, 0), NO_NUMBER);
        }
    }

    private static void actIsNoMoment() {
        FreeShelf x = new FreeShelf();
        for (int i = 0; i < 7; i++) {
            x.act(0, i, 0, 0, 0);
            is("no moment", x.told(0, i, 4), 0);
            x.moment(0, i, true);
        }
        x.tear(0, 3);
        for (int i = 3; i < 7; i++) {
            x.act(0, i, 0, 0, 0);
            is("no moment, where one was", x.told(0, i, 4), 0);
        }
        for (int i = 0; i < 3; i++) is("those that are kept", x.told(0, i, 4), 1);
        x.tear(0, -1);
        x.act(0, 0, 0, 0, 0);
        is("after all have gone", x.moment(0, 0, true), 0);
    }

    private static void operations() {
        for (int op = -2; op < 30; op++) {
            FreeShelf x = new FreeShelf();
            boolean right = op >= 0 && op <= 13 || op >= 20 && op <= 26;
            is("op " + op, x.act(0, op, 0, 0, 0), right ? 1 : BAD);
            is("told of op " + op, x.told(0, 0, 0), right ? op : NO_NUMBER);
        }
        for (int op : new int[] {MIN, MIN + 14, -100, 100, 256, MAX}) is("op " + op, new FreeShelf().act(0, op, 0, 0, 0), BAD);
    }

    /** How an operation uses its numbers: l local, g global, b field, guard or mark, n number, p act, - not at all. */
    private static String uses(int op) {
        switch (op) {
            case 0: return "lg-";
            case 1: return "llb";
            case 2: return "gl-";
            case 3: return "lbl";
            case 4: return "gll";
            case 5: return "lll";
            case 6: return "gn-";
            case 8, 9, 13, 21: return "l--";
            case 10: return "bl-";
            case 20, 26: return "ln-";
            case 22: return "ll-";
            case 23: return "lb-";
            case 24: return "p--";
            case 25: return "llp";
            default: return "---";
        }
    }

    private static int actWith(FreeShelf x, int op, int position, int number) {
        return x.act(3, op, position == 0 ? number : 0, position == 1 ? number : 0, position == 2 ? number : 0);
    }

    private static void unusedNumbers() {
        for (int op : OPERATIONS) {
            for (int position = 0; position < 3; position++) {
                if (uses(op).charAt(position) != '-') continue;
                for (int number : new int[] {MIN, -1000, -1, 8, 41, 100, MAX}) {
                    FreeShelf x = new FreeShelf();
                    is("op " + op + " with " + number, actWith(x, op, position, number), 1);
                    is("told", x.told(3, 0, 1 + position), number);
                }
            }
        }
        // They do no harm when the act is done.
        FreeShelf x = Shelf.with(5, act(FENCE, MAX, MIN, -1), act(TAKE, 1, MIN, MAX), act(LET, 1, 99, 99),
            act(ENTER, -1, -1, -1), act(LEAVE, 77, 77, 77), act(BLANK, 1, MAX, MAX), act(READ, 1, 0, MAX),
            act(GO, 8, MIN, MIN), act(RETURN, 0, MAX, MAX));
        x.begin();
        is("all are done", x.run(100), 7);
        is("answer", x.answer(0, 0), 5);
    }

    private static void actBadRoutine() {
        FreeShelf x = new FreeShelf();
        for (int r : new int[] {MIN, -7, -1, 6, 7, MAX}) is("routine " + r, x.act(r, FENCE, 0, 0, 0), BAD);
        is("routine 0", x.act(0, FENCE, 0, 0, 0), 1);
        is("routine 5", x.act(5, FENCE, 0, 0, 0), 1);
        for (int op : new int[] {MIN, -1, 14, 19, 27, MAX}) is("op " + op, x.act(5, op, 0, 0, 0), BAD);
        is("nothing was added", x.told(5, -1, 0), 1);
    }

    private static void numbersOf(char use, int low, int high) {
        int found = 0;
        for (int op : OPERATIONS) {
            for (int position = 0; position < 3; position++) {
                if (uses(op).charAt(position) != use) continue;
                found++;
                for (int number : new int[] {MIN, low - 100, low - 1, low, low + 1, high, high + 1, high + 100, MAX}) {
                    FreeShelf x = new FreeShelf();
                    boolean right = number >= low && number <= high;
                    String name = "op " + op + ", number " + position + ": " + number;
                    is(name, actWith(x, op, position, number), right ? 1 : BAD);
                    is(name + " told", x.told(3, 0, 1 + position), right ? number : NO_NUMBER);
                    is(name + " missing", x.told(3, -1, 0), right ? 1 : NONE);
                }
            }
        }
        holds("there are such operations", found > 0);
    }

    private static void actFull() {
        FreeShelf x = new FreeShelf();
        for (int r = 0; r < 6; r += 5) {
            for (int i = 1; i <= 30; i++) is("act " + i, x.act(r, SET, 0, i, 0), i);
            is("the 31st", x.act(r, SET, 0, 31, 0), FULL);
            is("again", x.act(r, RETURN, 0, 0, 0), FULL);
            is("30 acts", x.told(r, -1, 0), 30);
            is("the last", x.told(r, 29, 2), 30);
            is("BAD before FULL", x.act(r, SET, 0, 100, 0), BAD);
        }
        is("others have room", x.act(1, SET, 0, 1, 0), 1);
        x.tear(0, 29);
        is("room for one", x.act(0, SET, 0, 31, 0), 30);
        is("not for two", x.act(0, SET, 0, 31, 0), FULL);
    }

    private static FreeShelf three() {
        FreeShelf x = new FreeShelf();
        for (int i = 0; i < 3; i++) x.act(2, SET, 0, 10 + i, 0);
        return x;
    }

    private static void tearKept() {
        for (int n = -1; n <= 3; n++) {
            FreeShelf x = three();
            is("to " + n, x.tear(2, n), 3);
            is("acts", x.told(2, -1, 0), n < 0 ? NONE : n);
            for (int i = 0; i < 3; i++) is("act " + i, x.told(2, i, 2), i < n ? 10 + i : NO_NUMBER);
            is("a new one", x.act(2, SET, 0, 50, 0), Math.max(0, n) + 1);
        }
        FreeShelf x = new FreeShelf();
        is("to 0, where it was missing", x.tear(0, 0), 0);
        is("not missing", x.told(0, -1, 0), 0);
        is("to missing, where it was missing", x.tear(1, -1), 0);
        is("missing", x.told(1, -1, 0), NONE);
        x.call(0, 0, 0);
        x.call(1, 1, 0);
        choices(x, 0, 1);
        is("no acts", x.thread(0, 3), 3);
        is("missing", x.thread(1, 3), 1);
    }

    private static void tearHad() {
        FreeShelf x = three();
        is("more than there are", x.tear(2, 4), BAD);
        is("far more", x.tear(2, MAX), BAD);
        is("less than -1", x.tear(2, -2), BAD);
        is("far less", x.tear(2, MIN), BAD);
        for (int r : new int[] {MIN, -1, 6, MAX}) is("routine " + r, x.tear(r, -1), BAD);
        is("all are there", x.tear(2, 3), 3);
        is("had three", x.tear(2, 0), 3);
        is("had none", x.tear(2, 1), BAD);
        is("had none", x.tear(2, -1), 0);
        is("was missing", x.tear(2, 1), BAD);
        is("was missing", x.tear(2, 0), 0);
        for (int i = 0; i < 30; i++) x.act(5, FENCE, 0, 0, 0);
        is("31 of 30", x.tear(5, 31), BAD);
        is("30 of 30", x.tear(5, 30), 30);
        is("routine 5", x.tear(5, -1), 30);
    }

    private static void means() {
        for (int r = 0; r < 6; r++) {
            FreeShelf x = new FreeShelf();
            is("a missing one", x.means(r, 2), 0);
            is("2", x.means(r, 1), 2);
            is("1", x.means(r, 1), 1);
            is("1", x.means(r, 0), 1);
            is("0", x.means(r, 2), 0);
            for (int what : new int[] {MIN, -1, 3, MAX}) is("what " + what, x.means(r, what), BAD);
            is("as before", x.told(r, -1, 1), 2);
            is("others", x.told((r + 1) % 6, -1, 1), 0);
        }
        for (int r : new int[] {MIN, -1, 6, MAX}) is("routine " + r, new FreeShelf().means(r, 1), BAD);
    }

    private static void moment() {
        FreeShelf x = new FreeShelf();
        for (int op : OPERATIONS) x.act(1, op, 0, 0, 0);
        for (int i = 0; i < OPERATIONS.length; i++) {
            boolean can = OPERATIONS[i] <= 6;
            is("op " + OPERATIONS[i], x.moment(1, i, true), can ? 0 : BAD);
            is("again", x.moment(1, i, true), can ? 1 : BAD);
            is("not any more", x.moment(1, i, false), can ? 1 : BAD);
            is("again", x.moment(1, i, false), can ? 0 : BAD);
        }
        for (int place : new int[] {MIN, -1, OPERATIONS.length, 29, 30, MAX}) is("act " + place, x.moment(1, place, true), BAD);
        for (int r : new int[] {MIN, -1, 6, MAX}) is("routine " + r, x.moment(r, 0, true), BAD);
        is("missing", x.moment(0, 0, true), BAD);
        x.tear(0, 0);
        is("no acts", x.moment(0, 0, true), BAD);
        FreeShelf y = new FreeShelf();
        for (int i = 0; i < 30; i++) y.act(5, ADD, 0, 0, 0);
        is("act 29", y.moment(5, 29, true), 0);
        is("act 0", y.moment(5, 0, true), 0);
        is("act 28", y.told(5, 28, 4), 0);
        is("act 29", y.told(5, 29, 4), 1);
    }

    private static void callThread() {
        FreeShelf x = new FreeShelf();
        for (int t : new int[] {MIN, -1, 4, MAX}) is("thread " + t, x.call(t, 0, 0), BAD);
        for (int t = 0; t < 4; t++) is("thread " + t, x.call(t, 0, 0), 1);
        x.act(0, ADD, 0, 1, 0);
        x.act(0, RETURN, 5, 0, 0);
        x.begin();
        is("one start call", x.word(0, 1), 1);
        for (int t = 0; t < 3; t++) is("thread " + t, x.may(t), 1);
    }

    private static void callArgument() {
        for (int n : new int[] {MIN, -1000, -100, 100, 1000, MAX}) {
            is("argument " + n, new FreeShelf().call(0, 0, n), BAD);
            is("argument of a start call " + n, new FreeShelf().call(3, 0, n), BAD);
        }
        for (int n : new int[] {-99, -98, 0, 98, 99}) {
            FreeShelf x = new FreeShelf();
            x.act(0, WRITE, 1, 0, 0);
            x.act(0, RETURN, 0, 0, 0);
            is("argument " + n, x.call(1, 0, n), 1);
            is("argument of a start call " + n, x.call(3, 0, n), 1);
            choices(x, 1, 1);
            is("as it is", x.answer(1, 0), n);
            is("as it is", x.word(1, 1), n);
        }
    }

    private static void callNumber() {
        for (int t = 0; t < 4; t++) {
            int most = t == 3 ? 4 : 3;
            FreeShelf x = new FreeShelf();
            for (int i = 1; i <= most; i++) is("call " + i, x.call(t, 5, 0), i);
            is("one more", x.call(t, 5, 0), FULL);
            is("others", x.call((t + 1) % 4, 5, 0), 1);
            for (int r : new int[] {MIN, -1, 6, MAX}) is("routine " + r, x.call(t, r, 0), BAD);
            is("so many", x.clear(), most + 1);
        }
    }

    private static void callSixTogether() {
        int[][] counts = {{3, 3, 0}, {3, 0, 3}, {0, 3, 3}, {2, 2, 2}, {3, 2, 1}, {1, 2, 3}};
        for (int[] n : counts) {
            FreeShelf x = new FreeShelf();
            for (int i = 0; i < 4; i++) x.call(3, 0, 0);
            for (int t = 0; t < 3; t++) for (int i = 1; i <= n[t]; i++) is("call", x.call(t, 0, 0), i);
            for (int t = 0; t < 3; t++) is("no seventh", x.call(t, 0, 0), FULL);
            is("all", x.clear(), 10);
        }
        FreeShelf y = new FreeShelf();
        for (int i = 0; i < 6; i++) y.call(i % 3, 0, 0);
        for (int i = 1; i <= 4; i++) is("start calls besides", y.call(3, 0, 0), i);
        is("the fifth", y.call(3, 0, 0), FULL);
    }

    private static void clearAll() {
        FreeShelf x = Shelf.with(5, act(ADD, 0, 1), act(RETURN, 0));
        for (int t = 1; t < 4; t++) x.call(t, 0, 5);
        x.clear();
        is("none", x.begin(), NO);
        is("none", x.explore(), NO);
        is("call 1 again", x.call(2, 0, 6), 1);
        x.begin();
        is("no start call", x.word(0, 0), 0);
        for (int t = 0; t < 3; t++) is("thread " + t, x.may(t), t == 2 ? 1 : 0);
        is("the routine stays", x.told(0, -1, 0), 2);
        for (int i = 1; i <= 3; i++) is("room again", x.call(0, 0, 6), i);
    }

    private static void clearNumber() {
        FreeShelf x = new FreeShelf();
        is("none", x.clear(), 0);
        x.call(3, 0, 0);
        is("a start call", x.clear(), 1);
        is("none", x.clear(), 0);
        for (int i = 0; i < 6; i++) x.call(i / 2, 0, 0);
        for (int i = 0; i < 4; i++) x.call(3, 0, 0);
        is("as many as possible", x.clear(), 10);
        x.call(2, 0, 0);
        x.call(2, 0, 0);
        x.call(1, 0, 100);
        is("two", x.clear(), 2);
    }

    private static void manner() {
        FreeShelf x = new FreeShelf();
        int previous = 0;
        for (int m : new int[] {4, 0, 3, 1, 2, 2, 0}) {
            is("manner", x.manner(m), previous);
            previous = m;
            for (int bad : new int[] {MIN, -1, 5, MAX}) is("manner " + bad, x.manner(bad), BAD);
        }
    }

    private static void late() {
        FreeShelf x = new FreeShelf();
        is("ordered at first", x.late(false), 0);
        is("ordered", x.late(true), 0);
        is("late", x.late(true), 1);
        is("late", x.late(false), 1);
        is("ordered", x.late(false), 0);
    }

    private static void model() {
        FreeShelf x = new FreeShelf();
        int previous = 0;
        for (int m : new int[] {4, 0, 3, 1, 2, 2, 0}) {
            is("model", x.model(m), previous);
            previous = m;
            for (int bad : new int[] {MIN, -1, 5, MAX}) is("model " + bad, x.model(bad), BAD);
        }
    }

    private static void toldOfRoutine() {
        FreeShelf x = new FreeShelf();
        for (int r = 0; r < 6; r++) {
            is("missing", x.told(r, -1, 0), NONE);
            is("a missing one means", x.told(r, -1, 1), 0);
            x.means(r, 2);
            is("a missing one means", x.told(r, -1, 1), 2);
            x.tear(r, 0);
            is("no acts", x.told(r, -1, 0), 0);
            for (int i = 0; i < 30; i++) x.act(r, FENCE, 0, 0, 0);
            is("30 acts", x.told(r, -1, 0), 30);
            x.tear(r, -1);
            is("missing again", x.told(r, -1, 0), NONE);
        }
    }

    private static void toldBad() {
        FreeShelf x = new FreeShelf();
        x.act(5, SAME, 1, 2, 40);
        x.act(5, ADD, 7, -99, MIN);
        x.moment(5, 1, true);
        int[][] due = {{SAME, 1, 2, 40, 0}, {ADD, 7, -99, MIN, 1}};
        for (int place = 0; place < 2; place++) {
            for (int what = 0; what < 5; what++) is("told", x.told(5, place, what), due[place][what]);
            for (int what : new int[] {MIN, -1, 5, MAX}) is("what " + what, x.told(5, place, what), NO_NUMBER);
        }
        for (int what : new int[] {MIN, -1, 2, 4, MAX}) is("of the routine, what " + what, x.told(5, -1, what), NO_NUMBER);
        for (int place : new int[] {MIN, -2, 2, 29, 30, MAX}) is("act " + place, x.told(5, place, 0), NO_NUMBER);
        for (int r : new int[] {MIN, -1, 6, MAX}) {
            is("routine " + r, x.told(r, -1, 0), NO_NUMBER);
            is("routine " + r, x.told(r, 0, 0), NO_NUMBER);
        }
        is("a missing one has no act 0", x.told(0, 0, 0), NO_NUMBER);
        x.tear(0, 0);
        is("nor has an empty one", x.told(0, 0, 0), NO_NUMBER);
    }

    private static void begin() {
        FreeShelf x = new FreeShelf();
        is("no calls", x.begin(), NO);
        for (int i = 0; i < 4; i++) x.call(3, 0, 0);
        is("start calls alone", x.begin(), NO);
        x.call(2, 0, 0);
        is("a start call of a missing routine", x.begin(), -11);
        is("no run", x.may(2), NO);
        x.tear(0, 0);
        is("no acts", x.begin(), -13);
        x.act(0, RETURN, 0, 0, 0);
        is("begins", x.begin(), 1);
        is("a run", x.may(2), 1);
        x.step(2);
        is("begins anew", x.begin(), 1);
        is("from the first state", x.thread(2, 0), 0);
        x.act(1, LET, 0, 0, 0);
        x.clear();
        x.call(2, 0, 0);
        x.call(3, 1, 0);
        is("error 2", x.begin(), -12);
        is("not the earlier run either", x.thread(2, 0), NO);
        for (int t = 0; t < 3; t++) {
            FreeShelf y = new FreeShelf();
            y.call(t, 0, 0);
            is("one call of thread " + t, y.begin(), 1);
        }
    }

    private static FreeShelf circle() {
        return Shelf.with(0, act(ADD, 0, 1), act(GO, 0));
    }

    private static void stepNumber() {
        FreeShelf x = circle();
        x.call(2, 0, 0);
        x.begin();
        is("1", x.step(0), 1);
        is("2", x.step(2), 2);
        for (int c : new int[] {MIN, -1, 6, MAX}) is("choice " + c, x.step(c), BAD);
        is("3", x.step(2), 3);
        is("nothing else was done", x.word(0, 1), 3);
        is("two more", x.run(2), 2);
        is("6", x.step(0), 6);
        x.begin();
        is("1 again", x.step(0), 1);
    }

    private static void stepNo() {
        FreeShelf x = Shelf.with(0, act(WRITE, 0, 0), act(LET, 0));
        x.late(true);
        for (int c = 0; c < 6; c++) is("no run, choice " + c, x.step(c), NO);
        x.begin();
        for (int c = 1; c < 6; c++) is("not possible, choice " + c, x.step(c), NO);
        is("possible", x.step(0), 1);
        is("another's write", x.step(4), NO);
        is("possible", x.step(3), 2);
        is("no more", x.step(3), NO);
        is("an error", x.step(0), 3);
        for (int c = 0; c < 6; c++) is("at the end, choice " + c, x.step(c), NO);
    }

    private static void stepFull() {
        FreeShelf x = circle();
        x.begin();
        for (int i = 1; i <= 99; i++) is("step", x.step(0), i);
        is("the hundredth", x.step(0), 100);
        is("no more", x.step(0), FULL);
        is("no more", x.step(0), FULL);
        is("nothing was done", x.word(0, 1), 99);
        x.begin();
        is("run", x.run(100), 100);
        is("no more", x.step(0), FULL);
        x.begin();
        is("a new run", x.step(0), 1);
        FreeShelf y = line(120);
        is("120", y.explore(), 120);
        y.go(99);
        is("the hundredth", y.step(0), 100);
        is("no more", y.step(0), FULL);
        y.go(100);
        is("no more", y.step(0), FULL);
    }

    /** A thread that goes through so many states, at least 102 and at most 122. */
    private static FreeShelf line(int states) {
        return Shelf.with(0, join(rows(act(SET, 2, 99), act(FENCE), act(PLUS, 2, -1), act(SAME, 2, 0, 5), act(GO, 1)),
            times(states - 101, act(FENCE)), rows(act(RETURN, 0))));
    }

    private static void may() {
        FreeShelf x = Shelf.with(0, act(WRITE, 0, 0), act(FENCE));
        for (int c = 0; c < 6; c++) is("no run", x.may(c), NO);
        for (int c : new int[] {MIN, -1, 6, MAX}) is("choice " + c, x.may(c), BAD);
        x.late(true);
        x.begin();
        for (int c = 0; c < 6; c++) is("at first, choice " + c, x.may(c), c == 0 ? 1 : 0);
        x.step(0);
        for (int c = 0; c < 6; c++) is("a write, choice " + c, x.may(c), c % 3 == 0 ? 1 : 0);
        for (int c : new int[] {MIN, -1, 6, MAX}) is("choice " + c, x.may(c), BAD);
        x.step(3);
        x.step(0);
        x.step(0);
        for (int c = 0; c < 6; c++) is("at the end, choice " + c, x.may(c), 0);
        FreeShelf y = circle();
        y.begin();
        y.run(100);
        is("after 100 choices", y.may(0), 1);
    }

    private static void runInTurn() {
        FreeShelf x = Shelf.with(0, act(WRITE, 0, 0), act(GO, 0));
        x.call(1, 0, 1);
        x.call(2, 0, 2);
        x.late(true);
        // Three steps, three writes that come, and round again; the order is told by the buffers.
        int[][] buffers = {{1, 0, 0}, {1, 1, 0}, {1, 1, 1}, {0, 1, 1}, {0, 0, 1}, {0, 0, 0}, {1, 0, 0}, {1, 1, 0}};
        x.begin();
        for (int i = 0; i < 8; i++) {
            is("one", x.run(1), 1);
            for (int t = 0; t < 3; t++) is("after " + (i + 1) + ", thread " + t, x.thread(t, 4), buffers[i][t]);
        }
        x.begin();
        is("all at once", x.run(8), 8);
        for (int t = 0; t < 3; t++) is("thread " + t, x.thread(t, 4), buffers[7][t]);
        x.begin();
        is("after a step of thread 2", x.step(2), 1);
        is("the next possible", x.run(1), 1);
        is("is its write", x.thread(2, 4), 0);
        is("the next", x.run(1), 1);
        is("is thread 0, cyclically", x.thread(0, 4), 1);
        x.begin();
        x.step(1);
        x.step(4);
        is("after choice 4 without writes", x.run(1), 1);
        is("thread 0", x.thread(0, 4), 1);
        is("thread 1", x.thread(1, 4), 0);
        FreeShelf y = circle();
        y.begin();
        is("the same again and again", y.run(5), 5);
        y.explore();
        y.go(0);
        is("as if none was made", y.run(1), 1);
        FreeShelf z = circle();
        z.call(1, 0, 0);
        z.explore();
        z.go(1);
        is("after the last choice of the walk", z.walk(1, 0), 0);
        z.run(1);
        is("thread 1", z.thread(1, 1), 1);
    }

    private static void runUntil() {
        FreeShelf x = Shelf.with(0, act(FENCE), act(FENCE), act(RETURN, 0));
        x.begin();
        is("three are possible", x.run(100), 3);
        is("none is possible", x.run(100), 0);
        x.begin();
        is("exactly as many", x.run(3), 3);
        x.begin();
        is("two", x.run(2), 2);
        is("one is left", x.run(2), 1);
        FreeShelf y = circle();
        y.begin();
        is("99", y.run(99), 99);
        is("one is left of 100", y.run(100), 1);
        is("none is left", y.run(1), 0);
        y.begin();
        for (int i = 0; i < 40; i++) y.step(0);
        is("60 are left", y.run(61), 60);
        is("none is left", y.step(0), FULL);
    }

    private static void runNumber() {
        FreeShelf x = circle();
        is("no run", x.run(1), NO);
        is("no run", x.run(100), NO);
        for (int n : new int[] {MIN, -1, 0, 101, MAX}) is("n " + n, x.run(n), BAD);
        x.begin();
        for (int n : new int[] {MIN, -1, 0, 101, MAX}) is("n " + n, x.run(n), BAD);
        is("nothing was done", x.thread(0, 1), 0);
        is("1", x.run(1), 1);
        is("2", x.run(2), 2);
        x.begin();
        is("100", x.run(100), 100);
        is("not more", x.word(0, 1), 99);
        is("BAD all the same", x.run(101), BAD);
    }

    private static void wordNumbers() {
        for (int k = 0; k < 6; k++) {
            for (int f = 0; f < 2; f++) {
                FreeShelf x = after(k + 2, 7, join(times(k + 1, act(TAKE, 1)), rows(act(LAY, 1, f, 0))));
                for (int w = 0; w < 20; w++) is("field " + f + " of node " + k, x.word(w, 1), w == 8 + 2 * k + f ? 7 : 0);
            }
        }
        for (int g = 0; g < 8; g++) {
            FreeShelf x = after(1, 7, act(WRITE, g, 0));
            for (int w = 0; w < 20; w++) is("global " + g, x.word(w, 1), w == g ? 7 : 0);
        }
    }

    private static void wordParts() {
        FreeShelf x = after(2, false, 8, -99, act(TAKE, 1), act(TAKE, 2), act(WRITE, 0, 0), act(WRITE, 1, 1),
            act(WRITE, 2, 2), act(MARK, 0, 1), act(MARK, 2, 1), act(WRITE, 3, 0), act(WRITE, 4, 2), act(WRITE, 5, 5));
        word(x, 0, 1, -99, 0, 1);
        word(x, 1, 2, 0, 0, 1);
        word(x, 2, 2, 1, 0, 1);
        word(x, 3, 1, -99, 1, 1);
        word(x, 4, 2, 1, 1, 1);
        word(x, 5, 0, 0, 0, 1);
        word(x, 6, 0, 0, 0, 0);
    }

    private static void wordBad() {
        FreeShelf x = Shelf.with(5, act(WRITE, 0, 0));
        is("no run", x.word(0, 0), NO_RUN);
        is("no run", x.word(19, 3), NO_RUN);
        for (int round = 0; round < 2; round++) {
            for (int w : new int[] {MIN, -1, 20, 21, MAX}) is("word " + w, x.word(w, 0), NO_NUMBER);
            for (int what : new int[] {MIN, -1, 4, MAX}) is("what " + what, x.word(0, what), NO_NUMBER);
            is("a run", x.begin(), 1);
        }
        is("the first", x.word(0, 0), 0);
        is("the last", x.word(19, 3), 0);
    }

    private static void localParts() {
        FreeShelf x = after(2, false, 5, 99, act(TAKE, 1), act(WRITE, 0, 0), act(WRITE, 0, 0), act(WRITE, 0, 0),
            act(READ, 0, 0), act(MARK, 0, 1), act(COPY, 2, 1), act(MARK, 2, 1), act(SET, 3, -99), act(FENCE));
        local(x, 0, 1, 99, 1, 3);
        local(x, 1, 2, 0, 0, 0);
        local(x, 2, 2, 0, 1, 0);
        local(x, 3, 1, -99, 0, 0);
        local(x, 4, 0, 0, 0, 0);
    }

    private static void localBad() {
        FreeShelf x = Shelf.with(5, act(WRITE, 0, 0));
        is("no run", x.local(0, 0, 0), NO_RUN);
        is("no run", x.local(2, 5, 3), NO_RUN);
        for (int round = 0; round < 2; round++) {
            for (int t : new int[] {MIN, -1, 3, MAX}) is("thread " + t, x.local(t, 0, 0), NO_NUMBER);
            for (int l : new int[] {MIN, -1, 6, MAX}) is("local " + l, x.local(0, l, 0), NO_NUMBER);
            for (int what : new int[] {MIN, -1, 4, MAX}) is("what " + what, x.local(0, 0, what), NO_NUMBER);
            is("a run", x.begin(), 1);
        }
        is("the last", x.local(2, 5, 3), 0);
        is("nothing, as no call is begun", x.local(0, 0, 0), 0);
    }

    private static void node() {
        FreeShelf x = Shelf.with(5, join(times(6, act(TAKE, 1)), rows(act(LET, 1), act(FENCE))));
        is("no run", x.node(0), NO);
        for (int k : new int[] {MIN, -1, 6, MAX}) is("node " + k, x.node(k), BAD);
        x.manner(4);
        x.begin();
        for (int k = 0; k < 6; k++) is("free", x.node(k), 0);
        steps(x, 0, 6);
        for (int k = 0; k < 6; k++) is("taken", x.node(k), 1);
        steps(x, 0, 1);
        for (int k = 0; k < 6; k++) is("the last is released", x.node(k), k == 5 ? 2 : 1);
        for (int k : new int[] {MIN, -1, 6, MAX}) is("node " + k, x.node(k), BAD);
        // Released in a later epoch, it is 2 as well.
        FreeShelf y = after(4, false, 6, 5, act(TAKE, 1), act(LET, 1), act(TAKE, 1), act(LET, 1), act(TAKE, 2), act(LET, 2));
        is("epoch 3", y.epoch(), 3);
        is("released in epoch 2", y.node(0), 2);
    }

    private static void threadPlace() {
        FreeShelf x = Shelf.with(5, join(times(28, act(FENCE)), rows(act(RETURN, 0))));
        x.call(0, 1, 5);
        x.begin();
        is("no call is begun", x.thread(0, 2), 0);
        for (int i = 1; i <= 28; i++) {
            steps(x, 0, 1);
            is("place", x.thread(0, 2), i);
            is("no error", x.thread(0, 3), 0);
            is("begun", x.thread(0, 1), 1);
        }
        steps(x, 0, 1);
        is("no call is begun", x.thread(0, 2), 0);
        is("one is over", x.thread(0, 0), 1);
        is("not begun", x.thread(0, 1), 0);
        steps(x, 0, 1);
        is("an error", x.thread(0, 3), 1);
        is("the other threads have none", x.thread(1, 3) + x.thread(2, 3), 0);
        is("go to act 40", after(1, 0, act(FENCE), act(GO, 40)).thread(0, 2), 40);
    }

    private static void threadBuffer() {
        FreeShelf x = after(4, true, 2, 5, act(ENTER), act(TAKE, 1), act(WRITE, 0, 0), act(GUARD, 0, 1),
            act(GUARD, 1, 1), act(GUARD, 0, 2), act(LEAVE), act(FENCE));
        for (int what = 5; what <= 6; what++) is("no guard", x.thread(0, what), NONE);
        is("inside with epoch 0", x.thread(0, 7), 0);
        is("no writes", x.thread(0, 4), 0);
        steps(x, 0, 2);
        is("a write", x.thread(0, 4), 1);
        is("guard 0: node 0", x.thread(0, 5), 0);
        is("guard 1: none", x.thread(0, 6), NONE);
        steps(x, 0, 2);
        is("guard 0: none", x.thread(0, 5), NONE);
        is("guard 1: node 0", x.thread(0, 6), 0);
        steps(x, 0, 1);
        is("not inside", x.thread(0, 7), NONE);
        steps(x, 0, 1);
        is("no writes", x.thread(0, 4), 0);
        for (int what = 0; what < 5; what++) is("thread 2", x.thread(2, what), 0);
        for (int what = 5; what < 8; what++) is("thread 2", x.thread(2, what), NONE);
    }

    private static void threadBad() {
        FreeShelf x = Shelf.with(5, act(FENCE));
        is("no run", x.thread(0, 0), NO);
        is("no run", x.thread(2, 7), NO);
        for (int round = 0; round < 2; round++) {
            for (int t : new int[] {MIN, -1, 3, MAX}) is("thread " + t, x.thread(t, 0), BAD);
            for (int what : new int[] {MIN, -1, 8, MAX}) is("what " + what, x.thread(0, what), BAD);
            is("a run", x.begin(), 1);
        }
        is("the first", x.thread(0, 0), 0);
        is("the last", x.thread(2, 7), NONE);
    }

    private static void answerNone() {
        FreeShelf x = Shelf.with(-4, act(FENCE), act(RETURN, 0));
        x.call(0, 0, 9);
        x.call(2, 1, 9);
        x.begin();
        is("not begun", x.answer(0, 0), NONE);
        steps(x, 0, 1);
        is("not over", x.answer(0, 0), NONE);
        steps(x, 0, 1);
        is("this number", x.answer(0, 0), -4);
        is("it is over", x.thread(0, 0), 1);
        is("not begun", x.answer(0, 1), NONE);
        steps(x, 0, 2);
        is("over", x.answer(0, 1), 9);
        is("no third call", x.answer(0, 2), NONE);
        is("no calls", x.answer(1, 0), NONE);
        steps(x, 2, 1);
        is("an error", x.answer(2, 0), NONE);
        FreeShelf y = Shelf.with(0, act(RETURN, 1));
        y.call(0, 0, 0);
        y.call(0, 0, 0);
        choices(y, 0, 0, 0);
        is("the third", y.answer(0, 2), -100);
    }

    private static void answerBad() {
        FreeShelf x = Shelf.with(5, act(FENCE));
        is("no run", x.answer(0, 0), NO_RUN);
        is("no run", x.answer(2, 2), NO_RUN);
        for (int round = 0; round < 2; round++) {
            for (int t : new int[] {MIN, -1, 3, MAX}) is("thread " + t, x.answer(t, 0), NO_NUMBER);
            for (int i : new int[] {MIN, -1, 3, MAX}) is("index " + i, x.answer(0, i), NO_NUMBER);
            is("a run", x.begin(), 1);
        }
        is("the last", x.answer(2, 2), NONE);
    }

    private static void epoch() {
        FreeShelf x = Shelf.with(5, act(TAKE, 1), act(LET, 1), act(LEAVE), act(GO, 0));
        is("no run", x.epoch(), NO);
        x.manner(4);
        x.begin();
        is("at first", x.epoch(), 0);
        for (int i = 1; i <= 20; i++) {
            steps(x, 0, 3);
            is("round " + i, x.epoch(), 2 * i);
        }
        x.call(3, 1, 0);
        is("an error", x.begin(), -11);
        is("no run", x.epoch(), NO);
    }

    private static void agrees() {
        FreeShelf x = Shelf.with(5, act(FENCE), act(RETURN, 0));
        is("no run", x.agrees(), NO);
        choices(x);
        is("no end", x.agrees(), NO);
        x.step(0);
        is("no end", x.agrees(), NO);
        x.step(0);
        is("it agrees", x.agrees(), 1);
        x.means(0, 2);
        x.model(1);
        is("still the same run", x.agrees(), 1);
        choices(x, 0, 0);
        is("5 was not put", x.agrees(), 0);
        x.call(3, 1, 0);
        x.begin();
        is("no run", x.agrees(), NO);
        FreeShelf y = circle();
        y.begin();
        y.run(100);
        is("after 100 choices at no end", y.agrees(), NO);
    }

    private static void keeps() {
        FreeShelf x = Shelf.with(5, act(WRITE, 0, 0), act(RETURN, 0));
        x.moment(0, 0, true);
        is("no run", x.keeps(), NO);
        choices(x, 0, 0);
        is("no model", x.keeps(), NO);
        x.model(4);
        is("the run has no model", x.keeps(), NO);
        choices(x);
        is("no end", x.keeps(), NO);
        x.step(0);
        is("no end", x.keeps(), NO);
        x.step(0);
        is("it keeps them", x.keeps(), 1);
        x.model(0);
        is("the run has its model", x.keeps(), 1);
        x.model(4);
        x.moment(0, 0, false);
        choices(x, 0, 0);
        is("it does not", x.keeps(), 0);
        x.call(3, 1, 0);
        x.begin();
        is("no run", x.keeps(), NO);
    }

    private static void twelveExplorations() {
        FreeShelf x = Shelf.with(5, act(RETURN, 0));
        for (int i = 0; i < 12; i++) is("exploration " + i, x.explore(), 2);
        is("the thirteenth", x.explore(), FULL);
        is("the twelfth stays", x.explored(0), 2);
        FreeShelf y = Shelf.with(5, act(RETURN, 0));
        y.call(3, 1, 0);
        for (int i = 0; i < 11; i++) is("an error", y.explore(), -11);
        y.tear(1, 0);
        y.act(1, RETURN, 0, 0, 0);
        is("the twelfth", y.explore(), 2);
        is("the thirteenth", y.explore(), FULL);
        FreeShelf z = Shelf.with(5, act(RETURN, 0));
        z.call(3, 1, 0);
        for (int i = 0; i < 12; i++) is("an error", z.explore(), -11);
        is("FULL before the error", z.explore(), FULL);
        FreeShelf w = new FreeShelf();
        for (int i = 0; i < 30; i++) is("no calls", w.explore(), NO);
        w.call(0, 0, 0);
        for (int i = 0; i < 12; i++) is("those were none", w.explore(), 2);
        is("the thirteenth", w.explore(), FULL);
        FreeShelf v = Shelf.with(0, act(ADD, 0, 1), act(GO, 0));
        Shelf.routine(v, 1, act(ADD, 1, 1), act(GO, 0));
        v.call(1, 1, 0);
        for (int i = 0; i < 12; i++) is("incomplete ones count too", v.explore(), SPENT);
        is("the thirteenth", v.explore(), FULL);
    }

    private static void exploreNumber() {
        FreeShelf x = Shelf.with(5, act(LET, 0));
        is("as few as there can be", x.explore(), 2);
        FreeShelf y = line(122);
        is("122", y.explore(), 122);
        is("122", y.explored(0), 122);
        is("100 times 14", grid(14).explore(), 1400);
        FreeShelf whole = grid(15);
        is("100 times 15", whole.explore(), 1500);
        is("complete", whole.explored(7), 0);
        FreeShelf part = grid(16);
        is("100 times 16", part.explore(), SPENT);
        is("1500 of them", part.explored(0), 1500);
    }

    /** Thread 0 counts to 99 and has 100 states; thread 1 counts for itself and has so many. */
    private static FreeShelf grid(int states) {
        FreeShelf x = Shelf.with(0, act(ADD, 0, 1), act(GO, 0));
        Shelf.routine(x, 1, act(ADD, 1, 1), act(SET, 0, states - 1), act(SAME, 5, 0, 4), act(GO, 0), act(FENCE), act(GO, 4));
        x.call(1, 1, 0);
        return x;
    }

    private static void exploreNo() {
        FreeShelf x = new FreeShelf();
        is("no calls", x.explore(), NO);
        x.call(3, 0, 0);
        is("start calls alone", x.explore(), NO);
        is("no exploration", x.explored(0), NO);
        x.tear(0, 0);
        x.act(0, RETURN, 0, 0, 0);
        for (int t = 0; t < 3; t++) {
            x.clear();
            x.call(t, 0, 0);
            is("one call of thread " + t, x.explore(), 2);
        }
        x.clear();
        is("no calls", x.explore(), NO);
        is("the earlier one stays", x.explored(0), 2);
    }

    private static void exploreError() {
        int[][][] programs = {rows(act(PLUS, 1, 0)), rows(act(LET, 0)), rows(act(FENCE)), rows(act(TAKE, 1),
            act(LET, 1), act(LAY, 1, 0, 0)), rows(act(TAKE, 1), act(LET, 1), act(LET, 1)), rows(act(FENCE), act(GO, 0))};
        for (int e = 1; e <= 6; e++) {
            FreeShelf x = Shelf.with(0, act(RETURN, 0));
            x.manner(2);
            is("explored", x.explore(), 2);
            Shelf.routine(x, 1, programs[e - 1]);
            x.call(3, 0, 0);
            x.call(3, 1, 0);
            is("error " + e, x.explore(), -10 - e);
            is("explored", x.explored(0), NO);
            is("first", x.first(6), NO);
            is("walk", x.walk(0, 0), NO);
            is("next", x.next(0, 0), NO);
            is("go", x.go(0), NO);
            is("answers", x.answers(), NO);
            x.clear();
            x.call(0, 0, 0);
            is("again", x.explore(), 2);
            is("explored", x.explored(0), 2);
        }
    }

    /** Explorations one after the other, of which nothing stays until the next one. */
    private static void latestExploration() {
        FreeShelf x = Shelf.with(0, act(ADD, 0, 1), act(GO, 0));
        Shelf.routine(x, 1, act(ADD, 1, 1), act(GO, 0));
        x.call(1, 1, 0);
        is("too many", x.explore(), SPENT);
        is("no cycle is kept", x.first(4), NONE);
        is("none can finish", x.first(3), 1);
        x.clear();
        x.call(0, 2, 0);
        Shelf.routine(x, 2, act(FENCE), act(FENCE), act(FENCE), act(TAKE, 1), act(LET, 1), act(GO, 0));
        is("six times round, and a seventh without a node", x.explore(), 36);
        int[] figures = {36, 1, 1, 0, 35, 1, 6, 0};
        int[] firsts = {35, NONE, 35, NONE, NONE, 30, 35, NONE};
        told(x, figures, firsts);
        Shelf.routine(x, 2, act(FENCE), act(FENCE), act(FENCE), act(GO, 1));
        is("a circle of two", x.explore(), 3);
        told(x, new int[] {3, 0, 0, 0, 3, 0, 0, 0}, new int[] {NONE, NONE, NONE, 1, 1, 0, NONE, NONE});
        Shelf.routine(x, 2, act(FENCE), act(FENCE), act(FENCE), act(FENCE), act(FENCE), act(GO, 3));
        is("a later circle", x.explore(), 5);
        told(x, new int[] {5, 0, 0, 0, 5, 0, 0, 0}, new int[] {NONE, NONE, NONE, 1, 3, 0, NONE, NONE});
        Shelf.routine(x, 2, act(RETURN, 0));
        is("an end", x.explore(), 2);
        told(x, new int[] {2, 1, 0, 0, 1, 0, 0, 0}, new int[] {NONE, NONE, NONE, NONE, NONE, 0, 1, NONE});
        is("one answer", x.answers(), 1);
    }

    private static void told(FreeShelf x, int[] figures, int[] firsts) {
        for (int round = 0; round < 2; round++) {
            for (int i = 0; i < 8; i++) {
                is("explored(" + i + ")", x.explored(i), figures[i]);
                is("first(" + i + ")", x.first(i), firsts[i]);
            }
        }
    }

    private static void exploredMoments() {
        FreeShelf x = Shelf.with(5, act(WRITE, 0, 0), act(RETURN, 0));
        for (int model = 0; model < 5; model++) {
            x.model(model);
            x.explore();
            is("an end", x.explored(1), 1);
            is("without a moment, model " + model, x.explored(3), model == 0 ? 0 : 1);
            x.moment(0, 0, true);
            x.explore();
            is("with a moment, model " + model, x.explored(3), 0);
            x.moment(0, 0, false);
        }
        FreeShelf y = Shelf.with(5, act(LET, 0));
        y.explore();
        is("an error without a model does not agree", y.explored(2), 1);
        is("but is not counted here", y.explored(3), 0);
        y.model(1);
        y.explore();
        is("with a model it is", y.explored(3), 1);
    }

    private static void exploredPairs() {
        FreeShelf x = Shelf.with(5, act(RETURN, 0));
        x.explore();
        is("one", x.explored(4), 1);
        x.call(1, 0, 5);
        x.explore();
        is("two threads", x.explored(4), 4);
        FreeShelf y = Shelf.with(5, act(FENCE), act(GO, 0));
        y.explore();
        is("to itself as well", y.explored(4), 2);
        FreeShelf z = Shelf.with(0, act(ADD, 0, 1), act(GO, 0));
        Shelf.routine(z, 1, act(ADD, 1, 1), act(GO, 0));
        z.call(1, 1, 0);
        is("incomplete", z.explore(), SPENT);
        int pairs = 0;
        int lost = 0;
        for (int s = 1300; s < 1500; s++) {
            for (int c = 0; c < 2; c++) {
                if (z.next(s, c) == NONE) lost++;
            }
        }
        holds("some lead to states that are not kept", lost > 0);
        // Each state has two choices, as long as its threads are not at 99; only the last states lose some.
        is("all others", z.explored(4), 3000 - lost);
        is("states", z.explored(0) + pairs, 1500);
    }

    /** Two gets from a stack on which 5 was put first; both answer 5, or one of them -100. */
    private static FreeShelf gets(int model) {
        FreeShelf x = Shelf.with(5, act(READ, 1, 0), act(WRITE, 0, 2), act(RETURN, 1));
        Shelf.routine(x, 1, act(WRITE, 0, 0), act(RETURN, 0));
        x.means(0, 2);
        x.means(1, 1);
        x.model(model);
        x.moment(0, 0, true);
        x.call(1, 0, 5);
        x.call(3, 1, 5);
        return x;
    }

    private static int endsThatDoNotAgree(FreeShelf x) {
        int ends = x.explored(1);
        int wrong = 0;
        for (int i = 0; i < ends; i++) {
            x.go(x.first(6 + i));
            if (x.agrees() == 0) wrong++;
        }
        holds("some agree, some do not", wrong > 0 && wrong < ends);
        return wrong;
    }

    private static void exploredEnds() {
        FreeShelf x = gets(1);
        holds("complete", x.explore() > 0);
        is("ends that do not agree", x.explored(2), endsThatDoNotAgree(x));
        is("with one answer of 5", x.answers(), 2);
        x.moment(0, 0, false);
        x.explore();
        is("no end keeps the moments", x.explored(3), x.explored(1));
        is("but some agree", x.explored(2), endsThatDoNotAgree(x));
        x.model(0);
        int states = x.explore();
        is("without a model all agree", x.explored(2), 0);
        is("states", x.explored(0), states);
        FreeShelf y = Shelf.with(5, act(FENCE), act(GO, 0));
        y.model(1);
        y.explore();
        is("no ends", y.explored(1) + y.explored(2) + y.explored(3), 0);
    }

    private static void exploredErrors() {
        FreeShelf x = Shelf.with(5, act(FENCE), act(RETURN, 0));
        x.call(2, 1, 0);
        x.explore();
        // Thread 2 fails before the call of thread 0, while it is begun, or when it is over; thread 0 goes on.
        int errors = 0;
        for (int s = 0; s < x.explored(0); s++) {
            x.go(s);
            if (x.thread(2, 3) != 0) errors++;
        }
        is("states", x.explored(5), errors);
        is("three, and those that tell when it has begun", errors, 4);
        x.clear();
        x.call(0, 0, 0);
        x.explore();
        is("none", x.explored(5), 0);
        x.call(1, 3, 0);
        x.call(2, 3, 0);
        x.clear();
        x.call(1, 3, 0);
        x.call(2, 3, 0);
        x.explore();
        is("all but the first; two errors count once", x.explored(5), 3);
    }

    private static void firstOfSeveral() {
        FreeShelf x = gets(1);
        x.explore();
        int[] due = {NONE, NONE};
        for (int i = x.explored(1) - 1; i >= 0; i--) {
            int end = x.first(6 + i);
            x.go(end);
            if (x.agrees() == 0) due[0] = end;
            if (x.keeps() == 0) due[1] = end;
        }
        holds("not the first end", due[0] > x.first(6));
        x.moment(0, 0, false);
        x.explore();
        is("without moments the first end", x.first(1), x.first(6));
        holds("which agrees", x.first(0) > x.first(6));
        x.moment(0, 0, true);
        x.explore();
        is("the first that does not agree", x.first(0), due[0]);
        is("the first that does not keep the moments", x.first(1), due[1]);
    }

    private static void firstErrorStuckCycle() {
        FreeShelf x = Shelf.with(5, act(FENCE), act(FENCE), act(LET, 0));
        is("a line", x.explore(), 4);
        is("an error in the last", x.first(2), 3);
        is("all can finish", x.first(3), NONE);
        is("no cycle", x.first(4), NONE);
        x = Shelf.with(5, act(FENCE), act(FENCE), act(FENCE), act(GO, 2));
        is("a line with a circle of one", x.explore(), 3);
        is("no error", x.first(2), NONE);
        is("stuck, as soon as the call is begun", x.first(3), 1);
        is("the circle", x.first(4), 2);
        x.call(1, 0, 5);
        x.explore();
        is("stuck, as soon as a call is begun", x.first(3), 1);
        // State 3 is the first in which thread 0 goes round; thread 1 has not begun there.
        is("the first state of any circle", x.first(4), 3);
        is("to itself", x.next(3, 0), 3);
    }

    private static void exploredNodes() {
        FreeShelf x = Shelf.with(5, join(times(3, act(TAKE, 1)), rows(act(LET, 1), act(RETURN, 0))));
        int[] due = {1, 0, 0, 0, 1};
        for (int manner = 0; manner < 5; manner++) {
            x.manner(manner);
            x.explore();
            is("manner " + manner, x.explored(6), due[manner]);
            is("complete", x.explored(7), 0);
            is("that is no error", x.explored(5), 0);
            is("that is no error", x.first(2), NONE);
        }
        FreeShelf y = Shelf.with(5, act(TAKE, 1), act(LET, 1), act(GO, 0));
        y.explore();
        is("all six", y.explored(6), 6);
        is("an error, at the end", y.explored(5), 1);
        FreeShelf z = Shelf.with(0, act(ADD, 0, 1), act(GO, 0));
        Shelf.routine(z, 1, act(ADD, 1, 1), act(GO, 0));
        z.call(1, 1, 0);
        z.explore();
        is("none", z.explored(6), 0);
        is("incomplete", z.explored(7), 1);
    }

    private static void exploredBad() {
        FreeShelf x = Shelf.with(5, act(RETURN, 0));
        for (int what = 0; what < 8; what++) is("no exploration", x.explored(what), NO);
        x.explore();
        int[] due = {2, 1, 0, 0, 1, 0, 0, 0};
        for (int what = 0; what < 8; what++) is("what " + what, x.explored(what), due[what]);
        for (int what : new int[] {MIN, -1, 8, MAX}) is("what " + what, x.explored(what), BAD);
    }

    private static void firstMoments() {
        FreeShelf x = Shelf.with(5, act(WRITE, 0, 0), act(RETURN, 0));
        x.explore();
        is("none without a model", x.first(1), NONE);
        x.model(1);
        x.explore();
        is("no moment", x.first(1), 2);
        x.moment(0, 0, true);
        x.explore();
        is("a moment", x.first(1), NONE);
        FreeShelf y = Shelf.with(5, act(LET, 0));
        y.explore();
        is("an error does not agree", y.first(0), 1);
        is("none without a model", y.first(1), NONE);
    }

    private static void firstNodes() {
        FreeShelf x = Shelf.with(5, act(TAKE, 1), act(LET, 1), act(TAKE, 1), act(LET, 1), act(RETURN, 0));
        x.explore();
        is("two in states 4 and 5", x.first(5), 4);
        x.manner(1);
        x.explore();
        is("none in all states", x.first(5), 0);
        x.manner(0);
        x.call(3, 0, 0);
        x.explore();
        is("two from the start calls", x.explored(6), 4);
        is("two more", x.first(5), 4);
        x.tear(0, 2);
        x.act(0, RETURN, 0, 0, 0);
        x.clear();
        x.call(3, 0, 0);
        x.call(0, 1, 0);
        x.explore();
        is("one in all states", x.explored(6), 1);
        is("one in all states", x.first(5), 0);
    }

    private static void firstEnds() {
        FreeShelf x = Shelf.with(5, act(RETURN, 0));
        x.call(1, 0, 5);
        is("five states", x.explore(), 5);
        is("two ends", x.explored(1), 2);
        is("end 0", x.first(6), 3);
        is("end 1", x.first(7), 4);
        is("no end 2", x.first(8), NONE);
        is("no end", x.first(MAX), NONE);
        FreeShelf y = Shelf.with(5, act(FENCE), act(GO, 0));
        y.explore();
        is("no end 0", y.first(6), NONE);
    }

    private static void firstNone() {
        FreeShelf x = Shelf.with(5, act(RETURN, 0));
        for (int what = 0; what < 8; what++) is("no exploration", x.first(what), NO);
        for (int what : new int[] {MIN, -7, -1}) is("what " + what, x.first(what), BAD);
        x.explore();
        int[] due = {NONE, NONE, NONE, NONE, NONE, 0, 1, NONE};
        for (int what = 0; what < 8; what++) is("what " + what, x.first(what), due[what]);
        for (int what : new int[] {MIN, -7, -1}) is("what " + what, x.first(what), BAD);
    }

    private static void walk() {
        FreeShelf x = Shelf.with(5, act(RETURN, 0));
        is("no exploration", x.walk(0, 0), NO);
        is("negative", x.walk(0, -1), BAD);
        x.call(2, 0, 5);
        is("five states", x.explore(), 5);
        is("the first", x.walk(0, 0), NONE);
        is("thread 2", x.walk(2, 0), 2);
        is("no more", x.walk(2, 1), NONE);
        is("0, then 2", 10 * x.walk(3, 0) + x.walk(3, 1), 2);
        is("2, then 0", 10 * x.walk(4, 0) + x.walk(4, 1), 20);
        is("no more", x.walk(4, 2), NONE);
        is("no more", x.walk(4, MAX), NONE);
        for (int s : new int[] {MIN, -1, 5, 1499, 1500, MAX}) {
            is("state " + s, x.walk(s, 0), NO);
            is("BAD first", x.walk(s, -1), BAD);
        }
        for (int i : new int[] {MIN, -1}) is("index " + i, x.walk(4, i), BAD);
    }

    private static void next() {
        FreeShelf x = Shelf.with(5, act(RETURN, 0));
        is("no exploration", x.next(0, 0), NO);
        is("no choice", x.next(0, 6), BAD);
        x.explore();
        is("possible", x.next(0, 0), 1);
        for (int c = 1; c < 6; c++) is("not possible", x.next(0, c), NONE);
        for (int c = 0; c < 6; c++) is("at the end", x.next(1, c), NONE);
        for (int s : new int[] {MIN, -1, 2, 1499, 1500, MAX}) is("state " + s, x.next(s, 0), NO);
        for (int c : new int[] {MIN, -1, 6, MAX}) {
            is("choice " + c, x.next(0, c), BAD);
            is("BAD first", x.next(2, c), BAD);
        }
        FreeShelf y = Shelf.with(0, act(ADD, 0, 1), act(GO, 0));
        Shelf.routine(y, 1, act(ADD, 1, 1), act(GO, 0));
        y.call(1, 1, 0);
        y.explore();
        is("not kept", y.next(1499, 0), NONE);
        y.go(1499);
        is("but possible", y.may(0), 1);
        is("no state 1500", y.next(1500, 0), NO);
    }

    private static void goOn() {
        FreeShelf x = Shelf.with(5, act(WRITE, 0, 0), act(RETURN, 0));
        x.late(true);
        x.manner(2);
        x.call(1, 0, 6);
        x.call(3, 0, 7);
        int states = x.explore();
        x.tear(0, -1);
        x.late(false);
        x.manner(0);
        x.clear();
        for (int s = 0; s < 20 && s < states; s++) {
            int length = 0;
            while (x.walk(s, length) != NONE) length++;
            is("go", x.go(s), length);
            String run = run(x);
            x.go(0);
            is("the start call", x.word(0, 1), 7);
            for (int i = 0; i < length; i++) is("the walk", x.step(x.walk(s, i)), i + 1);
            holds("the same by its walk", run(x).equals(run));
        }
        is("go", x.go(1), 1);
        is("counted on", x.step(0), 2);
        is("its manner", x.word(0, 3), 2);
        noStarterLeft();
        FreeShelf y = Shelf.with(5, act(RETURN, 0));
        y.call(1, 0, 6);
        y.explore();
        y.go(0);
        is("no choice was made", y.run(1), 1);
        is("thread 0", y.thread(0, 0), 1);
        y.go(2);
        is("choice 1 was made", y.run(1), 1);
        is("thread 0", y.thread(0, 0), 1);
    }

    /** A start call that has met an error with a guard and inside has no part in what go makes the run. */
    private static void noStarterLeft() {
        for (int manner = 3; manner <= 4; manner++) {
            FreeShelf x = Shelf.with(0, act(TAKE, 0), act(LET, 0), act(LEAVE), act(RETURN, 0));
            Shelf.routine(x, 1, act(TAKE, 0), act(GUARD, 0, 0), act(ENTER), act(LET, 1));
            x.manner(manner);
            x.explore();
            x.call(3, 1, 0);
            is("it fails", x.begin(), -11);
            is("go", x.go(0), 0);
            is("run", x.run(3), 3);
            is("free", x.node(0), 0);
        }
    }

    private static void goNo() {
        FreeShelf x = Shelf.with(5, act(RETURN, 0));
        is("no exploration", x.go(0), NO);
        is("no run", x.may(0), NO);
        x.explore();
        for (int s : new int[] {MIN, -1, 2, 1499, 1500, MAX}) is("state " + s, x.go(s), NO);
        is("no run", x.may(0), NO);
        is("1", x.go(1), 1);
        is("0", x.go(0), 0);
        for (int s : new int[] {MIN, -1, 2, 1499, 1500, MAX}) is("state " + s, x.go(s), NO);
        is("the run stays", x.may(0), 1);
    }

    private static void goFull() {
        FreeShelf x = line(110);
        is("110", x.explore(), 110);
        is("99", x.go(99), 99);
        is("100", x.go(100), 100);
        is("local 2", x.local(0, 2, 1), 0);
        is("place", x.thread(0, 2), 6);
        is("101", x.go(101), FULL);
        is("109", x.go(109), FULL);
        is("110", x.go(110), NO);
        is("the run stays", x.thread(0, 2), 6);
        is("0", x.go(0), 0);
    }

    private static void differentAnswers() {
        FreeShelf x = Shelf.with(1, act(RETURN, 0));
        x.call(1, 0, 1);
        x.explore();
        is("two ends with the same answers", x.explored(1), 2);
        is("one", x.answers(), 1);
        x = Shelf.with(1, act(ADD, 0, 1), act(RETURN, 5));
        x.call(1, 0, 1);
        x.explore();
        is("1 and 2, or 2 and 1", x.answers(), 2);
        x.call(2, 0, 1);
        x.explore();
        is("all orders of three", x.answers(), 6);
        x.means(0, 1);
        x.model(3);
        x.explore();
        is("all agree", x.answers(), 6);
        x.model(4);
        x.means(0, 2);
        x.explore();
        is("none agrees", x.answers(), 0);
        manyAnswers();
        // Only the second call of thread 2 answers something else.
        FreeShelf y = Shelf.with(1, act(WRITE, 0, 0), act(RETURN, 1));
        Shelf.routine(y, 1, act(READ, 1, 0), act(RETURN, 1));
        y.call(2, 1, 0);
        y.call(2, 1, 0);
        y.call(2, 1, 0);
        y.explore();
        is("1 in the last, the last two, all or none", y.answers(), 4);
        FreeShelf z = Shelf.with(1, act(LET, 0));
        z.explore();
        is("an end with an error", z.answers(), 0);
        FreeShelf w = Shelf.with(1, act(FENCE), act(GO, 0));
        w.explore();
        is("no end", w.answers(), 0);
    }

    /** Two threads that add twice in each call; the second one has a second call, unless n is 2. */
    private static FreeShelf adders(int n) {
        FreeShelf x = Shelf.with(0, act(ADD, 0, n), act(ADD, 0, 7), act(RETURN, 5));
        x.call(1, 0, 0);
        if (n != 2) x.call(1, 0, 0);
        x.explore();
        return x;
    }

    /** The results are counted by a set of texts as well; a new object for each 50 ends. */
    private static void manyAnswers() {
        for (int n = 1; n <= 4; n++) {
            FreeShelf x = adders(n);
            int ends = x.explored(1);
            int answers = x.answers();
            Set<String> results = new HashSet<>();
            for (int i = 0; i < ends; i++) {
                if (i % 50 == 49) x = adders(n);
                x.go(x.first(6 + i));
                results.add(x.answer(0, 0) + " " + x.answer(1, 0) + " " + x.answer(1, 1));
            }
            holds("more ends than results", results.size() < ends);
            is("results with " + n, answers, results.size());
        }
    }

    private static void answersNo() {
        FreeShelf x = Shelf.with(1, act(RETURN, 0));
        is("no exploration", x.answers(), NO);
        x.begin();
        is("a run is none", x.answers(), NO);
        x.explore();
        is("one", x.answers(), 1);
        x.call(3, 1, 0);
        is("an error", x.explore(), -11);
        is("no exploration", x.answers(), NO);
    }
}
