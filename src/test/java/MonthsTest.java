/** Promises 29 to 34: months in thought and in deed, images, changes undone and done again. */
public final class MonthsTest {
    private static final Due due = new Due("MonthsTest");

    public static void main(String[] args) {
        months();
        turn();
        image();
        undo();
        forty();
        fortyOfMany();
        undoAndTurn();
        due.close();
    }

    /** Promise 29. */
    private static void months() {
        TwoAlike x = new TwoAlike();
        due.is("bad", x.months(0), -1);
        due.is("bad", x.months(13), -1);
        due.is("bad", x.months(Integer.MIN_VALUE), -1);
        x.person(0, 4);
        x.person(3, 0);
        x.person(4, 0);
        x.mend(0, 2, 3);
        due.is("now", x.needs(), 0);
        for (int n = 1; n <= 12; n++) due.is("months", x.months(n), n % 2);
        due.is("in thought alone", x.of(0, 0), 0);
        due.is("in thought alone", x.of(0, 11), 0);
        x.hat(0, 2);
        due.is("hats as they are", x.months(1), 0);
        due.is("hats as they are", x.months(2), 1);
        x.mend(0, 4, 10);
        Due.lawOf(x, "m<2");
        int[] want = {0, 3, 3, 0, 0, 0, 0, 0, 0, 0, 0, 0};
        for (int n = 1; n <= 12; n++) due.is("by 12", x.months(n), want[n - 1]);
        Due.lawOf(x, "m=10&h=1");
        due.is("a year", x.months(12), 2);
    }

    /** Promise 30. */
    private static void turn() {
        TwoAlike x = new TwoAlike();
        for (int n = 1; n < 12; n++) due.is("turn", x.turn(), n);
        due.is("by 12", x.turn(), 0);
        x.person(5, 8);
        x.person(6, 0);
        x.hat(0, 3);
        x.mend(0, 2, 33);
        due.is("turn", x.turn(), 1);
        due.is("looks", x.of(0, 0), 36);
        due.is("seen", x.of(0, 4), 44);
        due.is("drift", x.of(0, 2), 33);
        due.is("other one", x.of(1, 0), 6);
        due.is("month", x.of(0, 11), 1);
        due.is("no change", x.count(4), 1);
        due.is("turn", x.turn(), 2);
        due.is("looks", x.of(0, 0), 5);
    }

    /** Promises 31 and 32. */
    private static void image() {
        TwoAlike x = new TwoAlike();
        due.is("none", x.back(), -5);
        x.person(1, 63);
        x.person(2, 63);
        x.hat(0, 3);
        x.go(1, 1020, 4);
        x.sight(34, 9);
        due.is("image", x.image(), 2);
        x.hat(0, 4);
        x.hat(1, 0);
        x.go(1, 29, 1);
        x.go(0, 29, 2);
        x.sight(55 - 1, 10);
        x.person(3, 63);
        x.hat(2, 5);
        x.go(2, 29, 3);
        x.mend(0, 0, 60);
        x.mend(0, 3, 2);
        x.errand(0, 11);
        x.turn();
        due.is("back", x.back(), 2);
        due.is("people stay", x.count(0), 3);
        due.is("hat", x.of(0, 3), 3);
        due.is("hat", x.of(1, 3), -1);
        due.is("came since", x.of(2, 3), -1);
        due.is("at home", x.watch(2, 1), 0);
        due.is("told day", x.watch(10, 0), 104);
        due.is("told day", x.watch(10, 1), 11);
        due.is("sights", x.count(2), 1);
        due.is("sight", x.of(0, 22), 9);
        due.is("looks stay", x.of(0, 0), 60);
        due.is("ease stays", x.of(0, 10), 2);
        due.is("month stays", x.of(0, 11), 1);
        due.is("errands stay", x.count(1), 1);
        due.is("changes stay", x.count(4), 2);
        x.sight(0, 1);
        x.mend(0, 1, 0);
        x.hat(0, -1);
        due.is("again", x.back(), 2);
        due.is("a hat that may no longer be put on", x.of(0, 3), 3);
        due.is("sights", x.count(2), 1);
        due.is("a new one", x.image(), 3);
        x.go(0, 29, 0);
        due.is("is laid back", x.back(), 3);
        due.is("told day", x.watch(2, 1), 0);
    }

    /** Promises 33 and 34. */
    private static void undo() {
        TwoAlike x = new TwoAlike();
        due.is("none", x.undo(), -5);
        due.is("none", x.redo(), -5);
        x.person(1, 2);
        x.mend(0, 0, 9);
        x.mend(0, 1, 8);
        x.mend(0, 2, 7);
        x.mend(0, 3, 6);
        x.mend(0, 4, 5);
        int[][] asked = {{0, 11, 0}, {0, 10, 0}, {0, 2, 0}, {0, 1, 2}, {0, 0, 1}};
        int[] told = {5, 6, 7, 8, 9};
        for (int k = 0; k < 5; k++) {
            due.is("told", x.of(0, asked[k][1]), told[k]);
            due.is("undo", x.undo(), 4 - k);
            due.is("undone", x.of(0, asked[k][1]), asked[k][2]);
            due.is("count", x.count(4), 4 - k);
        }
        due.is("none", x.undo(), -5);
        for (int k = 4; k >= 0; k--) {
            due.is("redo", x.redo(), k);
            due.is("done again", x.of(0, asked[k][1]), told[k]);
        }
        due.is("none", x.redo(), -5);
        x.undo();
        x.undo();
        due.is("the same is no change", x.mend(0, 3, 0), 0);
        x.person(3, 3);
        x.hat(0, 3);
        x.errand(0, 11);
        x.turn();
        due.is("nothing else stands behind", x.redo(), 1);
        due.is("another one does", x.mend(1, 0, 4), 3);
        due.is("none", x.redo(), -5);
        due.is("undo", x.undo(), 4);
        due.is("one", x.redo(), 0);
        due.is("bad ones are none", x.mend(1, 0, 64), -1);
        due.is("undo", x.undo(), 4);
        due.is("a hat stays", x.of(0, 3), 3);
    }

    private static void forty() {
        TwoAlike x = new TwoAlike();
        x.person(0, 0);
        for (int v = 1; v <= 45; v++) x.mend(0, 0, v);
        due.is("kept", x.count(4), 40);
        for (int k = 39; k >= 0; k--) due.is("undo", x.undo(), k);
        due.is("none", x.undo(), -5);
        due.is("looks", x.of(0, 0), 5);
        for (int k = 39; k >= 30; k--) due.is("redo", x.redo(), k);
        due.is("looks", x.of(0, 0), 15);
        x.mend(0, 2, 1);
        due.is("count", x.count(4), 11);
        due.is("none", x.redo(), -5);
    }

    /** The oldest are forgotten whole: whose they were, and what. */
    private static void fortyOfMany() {
        TwoAlike x = new TwoAlike();
        Model m = new Model();
        for (int p = 0; p < 4; p++) due.is("person", x.person(p, p), m.person(p, p));
        for (int k = 0; k < 57; k++) {
            int what = k * 7 % 5;
            int number = what < 3 ? k % 4 : 0;
            int v = (m.of(number, what < 3 ? what : what + 7) + 1 + k % 2) % 7;
            due.is("mend", x.mend(number, what, v), m.mend(number, what, v));
        }
        for (int k = 0; k < 41; k++) {
            due.is("undo", x.undo(), m.undo());
            for (int p = 0; p < 4; p++) for (int what = 0; what < 3; what++) due.is("of", x.of(p, what), m.of(p, what));
            for (int what = 10; what < 12; what++) due.is("of", x.of(0, what), m.of(0, what));
        }
    }

    /** A change undone or done again gives the number that was told, though months went since. */
    private static void undoAndTurn() {
        TwoAlike x = new TwoAlike();
        x.person(4, 0);
        x.mend(0, 2, 1);
        x.mend(0, 0, 8);
        x.turn();
        due.is("turned", x.of(0, 0), 9);
        due.is("undo", x.undo(), 1);
        due.is("as it was", x.of(0, 0), 4);
        due.is("redo", x.redo(), 0);
        due.is("as told", x.of(0, 0), 8);
        x.mend(0, 4, 7);
        x.turn();
        due.is("undo", x.undo(), 2);
        due.is("month", x.of(0, 11), 1);
        due.is("redo", x.redo(), 0);
        due.is("month", x.of(0, 11), 7);
    }
}
