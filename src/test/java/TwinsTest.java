/** Promises 35 to 37 and 44: twins, acts, the trace, how many. */
public final class TwinsTest {
    private static final Due due = new Due("TwinsTest");

    public static void main(String[] args) {
        bodies();
        actsByHand();
        actsByHost();
        refused();
        counts();
        due.close();
    }

    /** Promise 35. */
    private static void bodies() {
        TwoAlike x = new TwoAlike();
        due.is("bad", x.body(-1), -1);
        due.is("bad", x.body(8), -1);
        for (int k = 0; k < 50; k++) due.is("body", x.body(k % 8), k);
        due.is("full", x.body(0), -3);
        due.is("BAD ahead of FULL", x.body(8), -1);
        due.is("count", x.count(5), 50);
        due.is("n is the number", x.act(48, 0, 100), 148);
    }

    private static void trace(TwoAlike x, int... want) {
        due.is("ran", x.count(6), want.length);
        for (int i = 0; i < want.length; i++) due.is("trace " + i, x.trace(i), want[i]);
        due.is("behind the trace", x.trace(want.length), -1);
        due.is("ahead of the trace", x.trace(-1), -1);
    }

    /** Promises 36 and 37, worked out by hand. */
    private static void actsByHand() {
        TwoAlike x = new TwoAlike();
        for (int kind = 0; kind < 8; kind++) x.body(kind);
        due.is("TWIN looks", x.act(0, 0, 5), 5);
        trace(x, 1);
        due.is("TWIN tells", x.act(0, 3, 5), 10 - 1);
        trace(x, 2, 10, 1, 11);
        due.is("HATTED looks", x.act(1, 0, 5), 6 + 3);
        trace(x, 20, 1);
        due.is("HOME walks", x.act(2, 1, 5), -14);
        trace(x, 30, 10, 1);
        due.is("BELLED waits", x.act(3, 2, 5), 18);
        trace(x, 40, 11);
        due.is("BELLED walks", x.act(3, 1, 5), -18);
        trace(x, 41, 30, 10, 1);
        due.is("BRIDE waits", x.act(4, 2, 5), 1 - 9);
        trace(x, 50, 11, 20, 1);
        due.is("DEAD tells", x.act(5, 3, 5), (-22 - 12) ^ 5);
        trace(x, 60, 2, 41, 30, 10, 1, 40, 11);
        due.is("SEEN looks", x.act(6, 0, 5), 22);
        trace(x, 70, 1);
        due.is("PASSED tells", x.act(7, 3, 5), 30 - 7 - (6 - 12) - 1);
        trace(x, 81, 2, 80, 10, 20, 1, 50, 11, 20, 1, 50, 11, 20, 1);
    }

    private static void actsByHost() {
        int[] xs = {0, 1, -1, 7, 1 << 30, Integer.MAX_VALUE, Integer.MIN_VALUE, 123456789};
        for (int shift = 0; shift < 5; shift++) {
            TwoAlike x = new TwoAlike();
            Model m = new Model();
            for (int k = 0; k < 8; k++) due.is("body", x.body((k + shift) % 8), m.body((k + shift) % 8));
            for (int body = 0; body < 8; body++) {
                for (int act = 0; act < 4; act++) {
                    int told = xs[(body * 3 + act + shift) % xs.length];
                    due.is("act " + body + " " + act + " " + told, x.act(body, act, told), m.act(body, act, told));
                    due.is("ran", x.count(6), m.count(6));
                    for (int i = -1; i < 3; i++) due.is("trace", x.trace(i), m.trace(i));
                }
            }
        }
    }

    private static void refused() {
        TwoAlike x = new TwoAlike();
        due.is("no twin", x.act(0, 0, 9), 0);
        trace(x);
        x.body(7);
        int[][] bad = {{1, 0}, {-1, 0}, {0, 4}, {0, -1}, {Integer.MAX_VALUE, Integer.MIN_VALUE}};
        for (int[] b : bad) {
            x.act(0, 3, 1);
            due.is("ran", x.count(6), 14);
            due.is("act", x.act(b[0], b[1], 9), 0);
            trace(x);
        }
    }

    /** Promise 44. */
    private static void counts() {
        TwoAlike x = new TwoAlike();
        x.person(1, 1);
        x.person(2, 1);
        x.person(3, 1);
        x.errand(0, 1);
        x.errand(2, 11);
        for (int k = 0; k < 4; k++) x.sight(k, k);
        for (int k = 0; k < 5; k++) x.feed('1');
        for (int k = 0; k < 6; k++) x.mend(0, 0, k * 7);
        for (int k = 0; k < 7; k++) x.body(1);
        x.act(0, 3, 3);
        int[] want = {3, 2, 4, 5, 6, 7, 5};
        for (int what = 0; what < 7; what++) due.is("count " + what, x.count(what), want[what]);
        due.is("bad", x.count(7), -1);
        due.is("bad", x.count(-1), -1);
        x.undo();
        due.is("may be undone", x.count(4), 5);
    }
}
