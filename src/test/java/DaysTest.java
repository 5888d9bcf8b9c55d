/** Promises 12 to 17: plans, who waited, the best order, who bars whom, what the latest plan told. */
public final class DaysTest {
    private static final Due due = new Due("DaysTest");

    public static void main(String[] args) {
        plan();
        waitsBetween();
        lastMinute();
        best();
        bars();
        led();
        refused();
        dense();
        due.close();
    }

    private static TwoAlike alikes(int n) {
        TwoAlike x = new TwoAlike();
        for (int p = 0; p < n; p++) x.person(0, 63);
        return x;
    }

    private static void errands(TwoAlike x, int p, int... sms) {
        for (int sm : sms) x.errand(p, sm);
    }

    /** Promises 12 to 14. */
    private static void plan() {
        TwoAlike x = alikes(3);
        due.is("nothing to do", x.plan(), 0);
        errands(x, 0, 2);
        errands(x, 1, 3);
        errands(x, 2, 1);
        due.is("plan", x.plan(), 2 + 5);
        due.is("waited", x.waited(0, 0), 0);
        due.is("waited", x.waited(1, 0), 2);
        due.is("waited", x.waited(2, 0), 5);
        int[] want = {0, 0, -1, -1, -1, -1};
        for (int minute = 0; minute < 6; minute++) due.is("where", x.where(0, minute), want[minute]);
        due.is("where", x.where(1, 1), -1);
        due.is("where", x.where(1, 2), 0);
        due.is("where", x.where(1, 4), 0);
        due.is("where", x.where(1, 5), -1);
        due.is("where", x.where(2, 5), 0);
        x.mend(1, 0, 1);
        due.is("unlike one", x.plan(), 2);
        due.is("other street", x.errand(2, 36), 2);
        due.is("behind", x.where(2, 3), 3);
        due.is("behind", x.where(2, 8), 3);
        due.is("behind", x.where(2, 9), -1);
    }

    /** A gap too short for an errand is passed over; a later one waits in the midst of the day. */
    private static void waitsBetween() {
        TwoAlike x = alikes(3);
        errands(x, 0, 12, 3, 12, 24);
        errands(x, 1, 3, 12, 1, 12);
        due.is("plan", x.plan(), 5);
        due.is("gap of two", x.where(1, 0), -1);
        errands(x, 2, 11);
        due.is("free ahead of both", x.plan(), 5 + 2);
        TwoAlike y = alikes(2);
        errands(y, 0, 12, 23, 12);
        errands(y, 1, 14);
        due.is("gap of three is too short for four", y.plan(), 7);
        due.is("where", y.where(1, 7), 1);
        due.is("where", y.where(1, 2), -1);
        y = alikes(2);
        errands(y, 0, 12, 23, 12);
        errands(y, 1, 13);
        due.is("gap of three", y.plan(), 2);
        y = alikes(2);
        errands(y, 0, 23, 12);
        errands(y, 1, 13, 11);
        due.is("waits behind its first", y.plan(), 2);
        due.is("out", y.where(1, 2), 1);
        due.is("at home", y.where(1, 3), -1);
        due.is("at home", y.where(1, 4), -1);
        due.is("out", y.where(1, 5), 1);
        due.is("led", y.led(1, 1), 5);
    }

    private static void lastMinute() {
        TwoAlike x = alikes(3);
        errands(x, 0, 6, 6, 6, 6);
        errands(x, 1, 6);
        errands(x, 2, 11, 1);
        due.is("ends by minute 29; then none is free", x.plan(), 24 + 30);
        due.is("where", x.where(1, 29), 0);
        due.is("barred", x.waited(1, 1), 0);
        due.is("waited", x.waited(1, 0), 24);
        due.is("barred", x.waited(2, 1), 1);
        due.is("waited", x.waited(2, 0), 0);
        due.is("all errands", x.where(2, 0), -1);
        due.is("led", x.led(2, 0), -2);
        x.clear(2);
        errands(x, 2, 14);
        due.is("other street", x.plan(), 24);
        x.clear(1);
        errands(x, 1, 11, 6, 1);
        due.is("barred by the last one", x.plan(), 30);
        due.is("bars nobody in turn", x.where(2, 0), 1);
    }

    /** Promise 15. */
    private static void best() {
        TwoAlike x = alikes(3);
        errands(x, 0, 6);
        errands(x, 1, 4);
        errands(x, 2, 2);
        due.is("plan", x.plan(), 6 + 10);
        due.is("best", x.best(-1), 2 + 6);
        int[] want = {2, 1, 0};
        for (int k = 0; k < 3; k++) due.is("best", x.best(k), want[k]);
        x.clear(0);
        errands(x, 0, 2);
        for (int k = 0; k < 3; k++) due.is("of like ones the first", x.best(k), new int[] {0, 2, 1}[k]);
        due.is("plan stays", x.waited(2, 0), 6);
        due.is("bad", x.best(3), -1);
        due.is("bad", x.best(-2), -1);
        TwoAlike y = alikes(7);
        for (int p = 0; p < 7; p++) errands(y, p, 6, 6, 6, 6);
        due.is("all but one are barred", y.best(-1), 180);
        for (int k = 0; k < 7; k++) due.is("first by numbers", y.best(k), k);
    }

    /** Promise 16. */
    private static void bars() {
        TwoAlike x = alikes(4);
        errands(x, 0, 14);
        errands(x, 1, 3);
        errands(x, 2, 13);
        errands(x, 3, 2);
        due.is("first", x.bars(0), -2);
        due.is("other street", x.bars(1), -2);
        due.is("bars", x.bars(2), 0);
        due.is("bars", x.bars(3), 1);
        x.clear(3);
        due.is("no errands", x.bars(3), -2);
        TwoAlike y = alikes(3);
        errands(y, 0, 6, 6);
        errands(y, 1, 6, 6, 6);
        errands(y, 2, 1);
        due.is("either", y.bars(2), 0);
        y.clear(0);
        errands(y, 0, 6, 6);
        errands(y, 1, 6);
        due.is("barred by 0", y.bars(1), 0);
        y.clear(1);
        errands(y, 1, 6, 6, 6);
        errands(y, 2, 5);
        due.is("barred", y.waited(2, 1), 1);
        due.is("not barred without", y.bars(2), 0);
        due.is("none is led by it", y.led(0, 0), -5);
    }

    /** Promise 17. */
    private static void led() {
        TwoAlike x = alikes(2);
        errands(x, 0, 3);
        errands(x, 1, 6);
        due.is("no plan yet", x.led(0, 0), -5);
        due.is("BAD ahead of STATE", x.led(0, 2), -1);
        due.is("BAD ahead of STATE", x.led(2, 0), -1);
        x.where(0, 0);
        x.waited(0, 0);
        x.best(0);
        due.is("where tells no plan", x.led(0, 0), -5);
        due.is("plan", x.plan(), 3);
        due.is("first", x.led(1, 0), 3);
        due.is("last", x.led(1, 1), 8);
        x.person(0, 0);
        due.is("came since", x.led(2, 0), -5);
        x.clear(0);
        x.clear(1);
        due.is("as it was told", x.led(0, 1), 2);
        due.is("as it was told", x.led(1, 0), 3);
        x.best(-1);
        x.bars(1);
        due.is("as it was told", x.led(1, 1), 8);
        due.is("plan", x.plan(), 0);
        for (int p = 0; p < 3; p++) due.is("at home", x.led(p, p % 2), -2);
    }

    private static void refused() {
        TwoAlike x = alikes(1);
        int[][] bad = {{1, 0}, {-1, 0}, {0, -1}, {0, 30}, {7, 3}, {Integer.MAX_VALUE, 0}, {0, Integer.MIN_VALUE}};
        for (int[] b : bad) due.is("where", x.where(b[0], b[1]), TwoAlike.VOID);
        due.is("where", x.where(0, 29), -1);
        int[][] worse = {{1, 0}, {-1, 1}, {0, -1}, {0, 2}, {7, 0}};
        for (int[] b : worse) {
            due.is("waited", x.waited(b[0], b[1]), -1);
            due.is("led", x.led(b[0], b[1]), -1);
        }
        due.is("bars", x.bars(1), -1);
        due.is("bars", x.bars(-1), -1);
    }

    /** Seven in two streets, by the slow model: every order, every minute, with each one left out. */
    private static void dense() {
        long state = 99;
        for (int run = 0; run < 60; run++) {
            TwoAlike x = new TwoAlike();
            Model m = new Model();
            int size = run < 10 ? 7 : 5;
            for (int p = 0; p < size; p++) {
                state = state * 6364136223846793005L + 1442695040888963407L;
                int bits = (int) (state >>> 35);
                due.is("person", x.person(bits % 4, 0), m.person(bits % 4, 0));
                for (int k = 0; k < 4; k++) {
                    state = state * 6364136223846793005L + 1442695040888963407L;
                    int more = (int) (state >>> 35);
                    int sm = 10 * (more % 2) + 1 + more / 2 % 6;
                    if (more / 16 % 4 > 0) due.is("errand", x.errand(p, sm), m.errand(p, sm));
                }
            }
            due.is("ease", x.mend(0, 3, run % 3), m.mend(0, 3, run % 3));
            due.is("plan", x.plan(), m.plan());
            for (int p = 0; p < size; p++) {
                due.is("bars", x.bars(p), m.bars(p));
                due.is("waited", x.waited(p, 0), m.waited(p, 0));
                due.is("waited", x.waited(p, 1), m.waited(p, 1));
                due.is("led", x.led(p, 0), m.led(p, 0));
                due.is("led", x.led(p, 1), m.led(p, 1));
            }
            due.is("best", x.best(-1), m.best(-1));
            if (size == 5) for (int k = 0; k < size; k++) due.is("best", x.best(k), m.best(k));
        }
    }
}
