/** Promises 22 to 28: told days and sights. */
public final class ToldTest {
    private static final Due due = new Due("ToldTest");

    public static void main(String[] args) {
        go();
        judge();
        watch();
        sight();
        atLeast();
        atLeastSearches();
        who();
        gone();
        due.close();
    }

    private static TwoAlike alikes(int n) {
        TwoAlike x = new TwoAlike();
        for (int p = 0; p < n; p++) x.person(7, 63);
        return x;
    }

    /** Promise 22. */
    private static void go() {
        TwoAlike x = alikes(2);
        int[][] bad = {{2, 1, 0}, {-1, 1, 0}, {0, -1, 0}, {0, 30, 0}, {0, 100, 0}, {0, 502, 0}, {0, 3030, 0}, {0, 2930, 1},
            {0, 5, 5}, {0, 5, -2}, {0, Integer.MIN_VALUE, 0}, {0, Integer.MAX_VALUE, 0}, {0, -100, 1}, {0, 99, 1}};
        for (int[] b : bad) due.is("go " + b[0] + " " + b[1] + " " + b[2], x.go(b[0], b[1], b[2]), -1);
        due.is("nobody went", x.watch(1, 1), 0);
        due.is("all day", x.go(0, 29, 4), 30);
        due.is("apart", x.watch(1, 1), 30);
        due.is("one minute", x.go(0, 0, -1), 1);
        due.is("one minute", x.go(0, 2929, 0), 1);
        due.is("home", x.go(0, 1019, -1), 10);
        due.is("apart", x.watch(1, 1), 19);
        due.is("other one", x.go(1, 1212, 3), 1);
        due.is("apart", x.watch(1, 1), 20);
        due.is("where is the plan's", x.where(0, 5), -1);
    }

    /** Promise 23. */
    private static void judge() {
        TwoAlike x = alikes(4);
        due.is("bad", x.judge(-1), -1);
        due.is("bad", x.judge(3), -1);
        for (int what = 0; what < 3; what++) due.is("all at home", x.judge(what), -2);
        x.go(3, 29, 2);
        x.go(2, 1020, 2);
        due.is("minute", x.judge(0), 10);
        due.is("lesser", x.judge(1), 2);
        due.is("other", x.judge(2), 3);
        x.go(1, 1010, 2);
        due.is("the least of both", x.judge(1), 1);
        due.is("the least of both", x.judge(2), 2);
        x.go(0, 1010, 1);
        due.is("other street", x.judge(1), 1);
        x.mend(1, 0, 0);
        due.is("unlike", x.judge(1), 2);
        x.go(0, 1111, 2);
        due.is("first minute", x.judge(0), 10);
        x.go(3, 1010, -1);
        due.is("minute", x.judge(0), 11);
        due.is("lesser", x.judge(1), 0);
        due.is("other", x.judge(2), 2);
        x.go(2, 0, 2);
        due.is("minute 0", x.judge(0), 0);
        due.is("other", x.judge(2), 3);
        x.go(2, 0, -1);
        Due.lawOf(x, "0");
        due.is("by the law", x.judge(0), -2);
    }

    /** Promise 24. */
    private static void watch() {
        TwoAlike x = alikes(3);
        due.is("both at home", x.watch(1, 0), -2);
        x.go(0, 529, 3);
        x.go(1, 520, 3);
        due.is("first minute", x.watch(1, 0), 213);
        due.is("nothing", x.watch(10, 0), -2);
        due.is("apart", x.watch(10, 1), 9);
        due.is("third", x.watch(2, 0), 53);
        x.go(1, 707, 0);
        due.is("other street", x.watch(1, 0), 73);
        due.is("other street", x.watch(10, 0), 70);
        due.is("apart", x.watch(1, 1), 10);
        int[] bad = {0, 11, 3, 30, -1, 77, Integer.MIN_VALUE};
        for (int pq : bad) due.is("watch " + pq, x.watch(pq, 0), -1);
        due.is("what", x.watch(1, 2), -1);
        due.is("what", x.watch(1, -1), -1);
    }

    /** Promise 25. */
    private static void sight() {
        TwoAlike x = new TwoAlike();
        int[][] bad = {{-1, 0}, {5, 0}, {9, 0}, {300, 0}, {295, 0}, {0, 64}, {0, -1}, {-10, 0}, {Integer.MIN_VALUE, 0}, {Integer.MAX_VALUE, 0}};
        for (int[] b : bad) due.is("sight " + b[0], x.sight(b[0], b[1]), -1);
        due.is("none", x.count(2), 0);
        for (int k = 0; k < 10; k++) due.is("sight", x.sight(294 - 10 * k, 63 - k), k);
        due.is("full", x.sight(0, 0), -3);
        due.is("BAD ahead of FULL", x.sight(0, 64), -1);
        due.is("how many", x.count(2), 10);
        due.is("minute", x.of(9, 20), 20);
        due.is("street", x.of(9, 21), 4);
        due.is("looks", x.of(9, 22), 54);
    }

    /** Promise 26. */
    private static void atLeast() {
        TwoAlike x = new TwoAlike();
        due.is("none", x.atLeast(0), 0);
        due.is("bad", x.atLeast(-1), -1);
        due.is("bad", x.atLeast(7), -1);
        x.sight(10, 0);
        x.sight(10, 0);
        due.is("the same", x.atLeast(0), 1);
        x.sight(20, 0);
        due.is("other minute", x.atLeast(0), 1);
        x.sight(11, 0);
        due.is("other street", x.atLeast(6), 2);
        x.sight(20, 1);
        due.is("other look", x.atLeast(6), 2);
        due.is("no part is free", x.atLeast(0), 3);
        x.sight(50, 63);
        due.is("six parts", x.atLeast(6), 2);
        due.is("five parts", x.atLeast(5), 3);
        due.is("no part is free", x.atLeast(0), 4);
        TwoAlike ten = new TwoAlike();
        for (int k = 0; k < 10; k++) ten.sight(10 + k % 5, k);
        due.is("each another one", ten.atLeast(6), 10);
        TwoAlike y = new TwoAlike();
        y.sight(10, 0);
        y.sight(20, 7);
        due.is("just as many", y.atLeast(3), 1);
        due.is("one more", y.atLeast(2), 2);
    }

    private static void atLeastSearches() {
        long state = 31;
        for (int run = 0; run < 60; run++) {
            TwoAlike x = new TwoAlike();
            Model m = new Model();
            for (int k = 0; k < 6 + run % 4; k++) {
                state = state * 6364136223846793005L + 1442695040888963407L;
                int ms = (int) (state >>> 40) % 3 * 10 + (int) (state >>> 50) % 2, looks = (int) (state >>> 59);
                due.is("sight", x.sight(ms, looks), m.sight(ms, looks));
            }
            for (int hats = 0; hats <= 6; hats++) due.is("at least", x.atLeast(hats), m.atLeast(hats));
        }
    }

    /** Promise 27. */
    private static void who() {
        TwoAlike x = new TwoAlike();
        x.person(8, 3);
        x.person(9, 0);
        x.person(10, 2);
        due.is("none", x.who(0), -1);
        x.sight(0, 8);
        x.sight(0, 9);
        x.sight(0, 11);
        due.is("bad", x.who(3), -1);
        due.is("bad", x.who(-1), -1);
        due.is("none, and a hat off", x.who(0), 1 + 4);
        due.is("a hat, and none", x.who(1), 1 + 2);
        due.is("not by two", x.who(2), 0);
        x.hat(0, 1);
        due.is("another in place", x.who(1), 1 + 2);
        x.mend(0, 1, 0);
        due.is("no longer", x.who(1), 2);
        due.is("by bare looks", x.who(0), 1 + 4);
        x.sight(0, 10);
        due.is("by what stays on", x.who(3), 1 + 4);
    }

    /** Promise 28. */
    private static void gone() {
        TwoAlike x = new TwoAlike();
        due.is("nobody", x.gone(0, 0), 0);
        x.person(8, 1);
        x.person(8, 0);
        x.person(20, 0);
        x.person(9, 0);
        due.is("no sights", x.gone(0, 0), 15);
        due.is("nobody is there to be lived on", x.gone(0, 1), 0);
        x.sight(100, 9);
        due.is("from 10 on", x.gone(10, 0), 2 + 4);
        due.is("lived on", x.gone(10, 1), 2);
        due.is("from 11 on", x.gone(11, 0), 15);
        due.is("lived on", x.gone(11, 1), 0);
        x.sight(292, 20);
        due.is("from 29 on", x.gone(29, 0), 11);
        due.is("unlike", x.gone(29, 1), 0);
        x.mend(0, 3, 6);
        due.is("all lived on", x.gone(29, 1), 11);
        due.is("from 0 on", x.gone(0, 0), 2);
        int[][] bad = {{-1, 0}, {30, 0}, {0, 2}, {0, -1}, {Integer.MAX_VALUE, 1}};
        for (int[] b : bad) due.is("gone", x.gone(b[0], b[1]), -1);
    }
}
