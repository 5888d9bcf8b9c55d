/** Counts and prints the answers that are not the ones that are due. */
final class Due {
    private static final int MOST_PRINTED = 100;

    private final String name;
    private int asked;
    private int wrong;

    Due(String name) {
        this.name = name;
    }

    void is(String call, long got, long want) {
        asked++;
        if (got == want) return;
        wrong++;
        if (wrong <= MOST_PRINTED) System.out.println(name + ": " + call + " answered " + got + ", due is " + want);
    }

    void holds(String what, boolean so) {
        is(what, so ? 1 : 0, 1);
    }

    /** Ends the test: exit code 1 if an answer was wrong. */
    void close() {
        System.out.println(name + ": " + asked + " answers, " + wrong + " wrong");
        if (wrong != 0 || asked == 0) System.exit(1);
    }

    static int feedAll(TwoAlike x, String text) {
        int fed = 0;
        for (int k = 0; k < text.length(); k++) fed = x.feed(text.charAt(k));
        return fed;
    }

    static int lawOf(TwoAlike x, String text) {
        feedAll(x, text);
        return x.law();
    }
}
