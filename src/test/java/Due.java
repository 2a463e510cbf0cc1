/** Counts answers that are due and tells those that are not given. */
final class Due {
    private static final int MOST_TOLD = 40;
    private final String name;
    private int right = 0;
    private int wrong = 0;

    Due(String name) {
        this.name = name;
    }

    void is(String call, int got, int want) {
        if (got == want) {
            right++;
            return;
        }
        wrong++;
        if (wrong <= MOST_TOLD) System.out.println(name + ": " + call + " answered " + got + ", due is " + want);
    }

    int wrong() {
        return wrong;
    }

    /** Ends the test, with exit code 1 if an answer was wrong. */
    void close() {
        System.out.println(name + ": " + right + " answers as due, " + wrong + " not");
        if (wrong != 0) System.exit(1);
    }
}
