/** Promises 1 to 8: people, their errands, hats and what is mended. */
public final class PeopleTest {
    private static final Due due = new Due("PeopleTest");

    public static void main(String[] args) {
        nobody();
        person();
        people();
        peopleRefused();
        errands();
        hats();
        mend();
        of();
        due.close();
    }

    /** Promise 1. */
    private static void nobody() {
        TwoAlike x = new TwoAlike();
        for (int what = 0; what <= 6; what++) due.is("count(" + what + ")", x.count(what), 0);
        due.is("of ease", x.of(0, 10), 0);
        due.is("of month", x.of(0, 11), 0);
        due.is("of nobody", x.of(0, 0), TwoAlike.VOID);
        due.is("taken", x.taken(5, 0), -11);
        due.is("kinds", x.kinds(1), 0);
        due.is("hats", x.hats(-1), 0);
        due.is("redo", x.redo(), -5);
        due.is("back", x.back(), -5);
        due.is("trace", x.trace(0), -1);
    }

    /** Promise 2. */
    private static void person() {
        TwoAlike x = new TwoAlike();
        int[][] bad = {{-1, 0}, {64, 0}, {0, -1}, {0, 64}, {Integer.MIN_VALUE, 3}, {3, Integer.MAX_VALUE}};
        for (int[] b : bad) due.is("person bad", x.person(b[0], b[1]), -1);
        due.is("count", x.count(0), 0);
        for (int p = 0; p < 7; p++) due.is("person", x.person(63 - p, p), p);
        due.is("person full", x.person(1, 1), -3);
        due.is("BAD ahead of FULL", x.person(64, 1), -1);
        due.is("count", x.count(0), 7);
        for (int p = 0; p < 7; p++) {
            due.is("looks", x.of(p, 0), 63 - p);
            due.is("may change", x.of(p, 1), p);
            due.is("drift", x.of(p, 2), 0);
            due.is("hat", x.of(p, 3), -1);
            due.is("errands", x.of(p, 5), 0);
        }
    }

    private static TwoAlike withRow(int... bytes) {
        TwoAlike x = new TwoAlike();
        x.row(2, 0, bytes.length);
        for (int k = 0; k < bytes.length; k++) x.put(2, k, bytes[k]);
        return x;
    }

    /** Promise 3. */
    private static void people() {
        TwoAlike x = withRow(5, 3, 9, 0, 63, 63, 7);
        due.is("two of three", x.people(2, 0, 2), 2);
        due.is("looks", x.of(1, 0), 9);
        due.is("may change", x.of(0, 1), 3);
        due.is("from 2, ends within a two", x.people(2, 2, 7), 2);
        due.is("looks", x.of(3, 0), 63);
        due.is("may change", x.of(3, 1), 63);
        due.is("last byte alone", x.people(2, 6, 1), 0);
        due.is("behind the end", x.people(2, 7, 1), 0);
        due.is("far behind the end", x.people(2, Integer.MAX_VALUE, 7), 0);
        due.is("from an odd place", x.people(2, 3, 1), 1);
        due.is("looks", x.of(4, 0), 0);
        due.is("may change", x.of(4, 1), 63);
        due.is("until full", x.people(2, 0, 3), 2);
        due.is("full", x.people(2, 0, 3), 0);
        due.is("count", x.count(0), 7);

        x = withRow(1, 2, 3, 64, 4, 5);
        due.is("may change not so", x.people(2, 0, 3), 1);
        x = withRow(1, 2, -1, 3, 4, 5);
        due.is("looks not so", x.people(2, 0, 3), 1);
        due.is("count", x.count(0), 1);
        x = withRow(127, 0);
        due.is("first not so", x.people(2, 0, 1), 0);
        x = withRow();
        due.is("a row of none", x.people(2, 0, 1), 0);
    }

    private static void peopleRefused() {
        TwoAlike x = withRow(1, 2, 3, 4);
        due.is("shelf", x.people(-1, 0, 1), -1);
        due.is("shelf", x.people(6, 0, 1), -1);
        due.is("n", x.people(2, 0, 0), -1);
        due.is("n", x.people(2, 0, 8), -1);
        due.is("ahead of the row", x.people(2, -1, 1), 0);
        due.is("a two ahead of the row", x.people(2, -2, 2), 0);
        due.is("far ahead of the row", x.people(2, Integer.MIN_VALUE, 7), 0);
        due.is("ahead of the row, n", x.people(2, -1, 0), -1);
        due.is("ahead, nothing there", x.people(3, -1, 1), 0);
        due.is("far behind, nothing there", x.people(3, Integer.MAX_VALUE, 1), 0);
        due.is("missing", x.people(3, 0, 7), 0);
        due.is("n, nothing there", x.people(3, 0, 8), -1);
        for (int sort = 1; sort <= 4; sort++) {
            x.row(4, sort, 8);
            due.is("row of " + sort, x.people(4, 0, 1), -12);
            due.is("ahead of a row of " + sort, x.people(4, -1, 1), -12);
        }
        x.body(0);
        x.keep(4, 0);
        due.is("twin", x.people(4, 0, 1), -12);
        due.is("ahead, twin", x.people(4, -1, 1), -12);
        due.is("count", x.count(0), 0);
    }

    /** Promises 4 and 5. */
    private static void errands() {
        TwoAlike x = new TwoAlike();
        due.is("nobody", x.errand(0, 11), -1);
        x.person(0, 0);
        x.person(1, 0);
        int[] bad = {-1, -9, -10, -11, 0, 7, 8, 9, 10, 17, 40, 47, 50, 51, 101, Integer.MIN_VALUE, Integer.MAX_VALUE};
        for (int sm : bad) due.is("errand " + sm, x.errand(0, sm), -1);
        due.is("none came", x.of(0, 5), 0);
        due.is("errand", x.errand(0, 1), 1);
        due.is("errand", x.errand(0, 46), 2);
        due.is("errand", x.errand(0, 23), 3);
        due.is("errand", x.errand(0, 35), 4);
        due.is("full", x.errand(0, 11), -3);
        due.is("BAD ahead of FULL", x.errand(0, 10), -1);
        due.is("other", x.errand(1, 46), 1);
        due.is("person", x.errand(2, 46), -1);
        due.is("minutes", x.of(0, 6), 15);
        due.is("minutes", x.of(1, 6), 6);
        due.is("of all", x.count(1), 5);
        due.is("in order", x.where(0, 0), 0);
        due.is("in order", x.where(0, 6), 4);
        due.is("in order", x.where(0, 7), 2);
        due.is("in order", x.where(0, 14), 3);
        due.is("clear", x.clear(-1), -1);
        due.is("clear", x.clear(2), -1);
        due.is("clear", x.clear(0), 4);
        due.is("again", x.clear(0), 0);
        due.is("of all", x.count(1), 1);
        due.is("minutes", x.of(0, 6), 0);
        due.is("errand", x.errand(0, 11), 1);
        due.is("in order", x.where(0, 0), 1);
    }

    /** Promise 6. */
    private static void hats() {
        TwoAlike x = new TwoAlike();
        x.person(20, 33);
        due.is("none of may change", x.hat(0, 1), TwoAlike.VOID);
        due.is("part", x.hat(0, -2), TwoAlike.VOID);
        due.is("part", x.hat(0, 6), TwoAlike.VOID);
        due.is("part", x.hat(0, 32), TwoAlike.VOID);
        due.is("nobody", x.hat(1, -1), TwoAlike.VOID);
        due.is("nobody", x.hat(-1, -1), TwoAlike.VOID);
        due.is("hat", x.hat(0, 0), -1);
        due.is("seen", x.of(0, 4), 21);
        due.is("hat", x.hat(0, 5), 0);
        due.is("seen", x.of(0, 4), 52);
        due.is("looks", x.of(0, 0), 20);
        due.is("same", x.hat(0, 5), 5);
        due.is("mend", x.mend(0, 1, 2), 33);
        due.is("stays", x.of(0, 3), 5);
        due.is("not again", x.hat(0, 5), TwoAlike.VOID);
        due.is("new one", x.hat(0, 1), 5);
        due.is("none", x.hat(0, -1), 1);
        due.is("seen", x.of(0, 4), 20);
        due.is("none again", x.hat(0, -1), -1);
    }

    /** Promise 7. */
    private static void mend() {
        TwoAlike x = new TwoAlike();
        due.is("ease without people", x.mend(0, 3, 6), 0);
        due.is("month without people", x.mend(0, 4, 11), 0);
        due.is("looks without people", x.mend(0, 0, 1), -1);
        x.person(1, 2);
        x.person(3, 4);
        int[][] bad = {{2, 0, 0}, {-1, 1, 0}, {0, -1, 0}, {0, 5, 0}, {0, 0, 64}, {0, 0, -1}, {0, 1, 64}, {0, 1, -1},
            {0, 2, 64}, {0, 2, -1}, {0, 3, 7}, {0, 3, -1}, {1, 3, 1}, {-1, 3, 1}, {0, 4, 12}, {0, 4, -1}, {1, 4, 1}};
        for (int[] b : bad) due.is("mend " + b[0] + " " + b[1] + " " + b[2], x.mend(b[0], b[1], b[2]), -1);
        due.is("changes", x.count(4), 2);
        due.is("looks", x.mend(1, 0, 63), 3);
        due.is("may change", x.mend(1, 1, 0), 4);
        due.is("drift", x.mend(1, 2, 62), 0);
        due.is("same", x.mend(1, 2, 62), 62);
        due.is("ease", x.mend(0, 3, 0), 6);
        due.is("month", x.mend(0, 4, 0), 11);
        due.is("changes", x.count(4), 7);
        int[] want = {63, 0, 62};
        for (int what = 0; what < 3; what++) due.is("of 1 " + what, x.of(1, what), want[what]);
        due.is("other one", x.of(0, 0), 1);
        due.is("other one", x.of(0, 1), 2);
        due.is("ease", x.of(0, 10), 0);
        due.is("month", x.of(0, 11), 0);
    }

    /** Promise 8. */
    private static void of() {
        TwoAlike x = new TwoAlike();
        x.person(9, 12);
        x.hat(0, 3);
        x.mend(0, 2, 7);
        x.errand(0, 34);
        x.errand(0, 6);
        x.mend(0, 3, 4);
        x.mend(0, 4, 8);
        x.sight(293, 17);
        x.sight(4, 63);
        int[] want = {9, 12, 7, 3, 1, 2, 10};
        for (int what = 0; what < 7; what++) due.is("of 0 " + what, x.of(0, what), want[what]);
        due.is("ease", x.of(0, 10), 4);
        due.is("month", x.of(0, 11), 8);
        due.is("minute", x.of(0, 20), 29);
        due.is("street", x.of(0, 21), 3);
        due.is("looks", x.of(0, 22), 17);
        due.is("minute", x.of(1, 20), 0);
        due.is("street", x.of(1, 21), 4);
        due.is("looks", x.of(1, 22), 63);
        int[][] bad = {{1, 0}, {-1, 6}, {0, -1}, {0, 7}, {0, 9}, {1, 10}, {-1, 11}, {0, 12}, {0, 19}, {2, 20}, {-1, 22}, {0, 23}};
        for (int[] b : bad) due.is("of " + b[0] + " " + b[1], x.of(b[0], b[1]), TwoAlike.VOID);
    }
}
