/** Promises 38 to 43: shelves, rows, the host's refusals. */
public final class ShelvesTest {
    private static final Due due = new Due("ShelvesTest");
    private static final long NONE = Long.MIN_VALUE;

    public static void main(String[] args) {
        keep();
        row();
        elements();
        lowestBits();
        shift();
        shiftRefused();
        taken();
        due.close();
    }

    /** Promise 38. */
    private static void keep() {
        TwoAlike x = new TwoAlike();
        due.is("no body", x.keep(0, 0), -1);
        due.is("nothing", x.keep(0, -1), 1);
        x.body(3);
        due.is("twin", x.keep(5, 0), 1);
        due.is("taken", x.taken(5, 3), 3);
        due.is("body", x.keep(5, 1), -1);
        due.is("body", x.keep(5, -2), -1);
        due.is("shelf", x.keep(6, 0), -1);
        due.is("shelf", x.keep(-1, 0), -1);
        due.is("still there", x.taken(5, 0), 3);
        x.row(5, 2, 4);
        due.is("a row in place", x.put(5, 3, 1), 1);
        due.is("a twin in place", x.keep(5, 0), 1);
        due.is("no row", x.put(5, 3, 1), -12);
        due.is("nothing in place", x.keep(5, -1), 1);
        due.is("nothing", x.put(5, 3, 1), -11);
    }

    /** Promise 39. */
    private static void row() {
        TwoAlike x = new TwoAlike();
        due.is("sort", x.row(0, 5, 1), -1);
        due.is("sort", x.row(0, -1, 1), -1);
        due.is("n", x.row(0, 0, 61), -1);
        due.is("shelf", x.row(6, 0, 1), -1);
        due.is("shelf", x.row(-1, 0, 1), -1);
        due.is("size", x.row(0, 0, -1), -14);
        due.is("size", x.row(0, 4, Integer.MIN_VALUE), -14);
        due.is("BAD ahead of -14", x.row(0, 5, -1), -1);
        due.is("BAD ahead of -14", x.row(6, 0, -1), -1);
        due.is("nothing came", x.put(0, 0, 0), -11);
        due.is("none", x.row(0, 3, 0), 1);
        due.is("no place", x.put(0, 0, 0), -13);
        due.is("most", x.row(0, 3, 60), 1);
        for (int i = 0; i < 60; i++) due.is("0 at first", x.element(0, i), 0);
        x.put(0, 59, 8);
        due.is("refused", x.row(0, 3, -2), -14);
        due.is("stays", x.element(0, 59), 8);
        due.is("a new one", x.row(0, 3, 60), 1);
        due.is("0 at first", x.element(0, 59), 0);
    }

    /** Promises 40 and 41. */
    private static void elements() {
        TwoAlike x = new TwoAlike();
        x.body(0);
        x.keep(1, 0);
        x.row(2, 3, 3);
        int[][] cases = {{-1, 0, -1}, {6, 0, -1}, {0, 0, -11}, {0, -1, -11}, {1, 0, -12}, {1, -1, -12}, {2, -1, -13}, {2, 3, -13},
            {2, Integer.MAX_VALUE, -13}, {2, Integer.MIN_VALUE, -13}};
        for (int[] c : cases) {
            due.is("put " + c[0] + " " + c[1], x.put(c[0], c[1], 7), c[2]);
            due.is("element " + c[0] + " " + c[1], x.element(c[0], c[1]), NONE);
        }
        for (int i = 0; i < 3; i++) due.is("put", x.put(2, i, 100 + i), 1);
        for (int i = 0; i < 3; i++) due.is("element", x.element(2, i), 100 + i);
        x.row(3, 3, 3);
        due.is("other shelf", x.element(3, 0), 0);
        due.is("all bits", x.put(2, 0, NONE), 1);
        due.is("all bits", x.element(2, 0), NONE);
    }

    private static void lowestBits() {
        long[] vs = {0, 1, -1, 127, 128, 255, 256, 32767, 32768, 65536, 1L << 31, 1L << 32, Long.MAX_VALUE, NONE, -129, 0x123456789abcdefL};
        for (int sort = 0; sort < 5; sort++) {
            TwoAlike x = new TwoAlike();
            Model m = new Model();
            due.is("row", x.row(4, sort, vs.length), m.row(4, sort, vs.length));
            for (int i = 0; i < vs.length; i++) due.is("put", x.put(4, i, vs[i]), m.put(4, i, vs[i]));
            for (int i = 0; i < vs.length; i++) due.is("element " + sort + " " + vs[i], x.element(4, i), m.element(4, i));
        }
        TwoAlike x = new TwoAlike();
        x.row(0, 0, 1);
        x.put(0, 0, 200);
        due.is("a byte", x.element(0, 0), -56);
        x.row(0, 4, 1);
        x.put(0, 0, 256);
        due.is("a boolean", x.element(0, 0), 1);
    }

    private static TwoAlike rows() {
        TwoAlike x = new TwoAlike();
        x.row(0, 2, 8);
        x.row(1, 2, 4);
        for (int i = 0; i < 8; i++) x.put(0, i, i + 1);
        return x;
    }

    private static void elementsAre(TwoAlike x, int shelf, int... want) {
        for (int i = 0; i < want.length; i++) due.is("element " + i, x.element(shelf, i), want[i]);
    }

    /** Promise 42. */
    private static void shift() {
        TwoAlike x = rows();
        due.is("shift", x.shift(0, 2, 1, 1, 3), 3);
        elementsAre(x, 1, 0, 3, 4, 5);
        elementsAre(x, 0, 1, 2, 3, 4, 5, 6, 7, 8);
        due.is("up", x.shift(0, 0, 0, 2, 5), 5);
        elementsAre(x, 0, 1, 2, 1, 2, 3, 4, 5, 8);
        x = rows();
        due.is("down", x.shift(0, 2, 0, 0, 6), 6);
        elementsAre(x, 0, 3, 4, 5, 6, 7, 8, 7, 8);
        due.is("none at the end", x.shift(0, 8, 1, 4, 0), 0);
        due.is("all", x.shift(1, 0, 0, 4, 4), 4);
        elementsAre(x, 0, 3, 4, 5, 6, 0, 0, 0, 0);
    }

    private static void shiftRefused() {
        TwoAlike x = rows();
        x.row(2, 1, 8);
        x.body(0);
        x.keep(3, 0);
        int[][] cases = {{-1, 0, 0, 0, 1, -1}, {0, 0, 6, 0, 1, -1}, {6, 0, 4, 0, 1, -1}, {4, 0, 0, 0, 1, -11}, {0, 0, 4, 0, 1, -11},
            {3, 0, 4, 0, 1, -11}, {4, 0, 3, 0, 1, -11}, {3, 0, 0, 0, 1, -12}, {0, 0, 3, 0, 1, -12}, {3, 0, 3, 0, 0, -12},
            {0, 0, 2, 0, 1, -12}, {2, 9, 0, 9, 0, -12}, {0, -1, 1, 0, 1, -13}, {0, 0, 1, -1, 1, -13}, {0, 6, 1, 0, 3, -13},
            {0, 0, 1, 2, 3, -13}, {0, 9, 1, 0, 0, -13}, {0, 0, 1, 5, 0, -13}, {0, 0, 1, 0, -1, -13}, {0, -1, 1, 0, 0, -13},
            {0, 1, 1, 1, Integer.MAX_VALUE, -13}, {0, Integer.MAX_VALUE, 1, 0, 1, -13}, {0, 0, 1, 0, Integer.MIN_VALUE, -13}};
        for (int[] c : cases) {
            due.is("shift " + c[0] + " " + c[1] + " " + c[2] + " " + c[3] + " " + c[4], x.shift(c[0], c[1], c[2], c[3], c[4]), c[5]);
        }
        elementsAre(x, 1, 0, 0, 0, 0);
        elementsAre(x, 0, 1, 2, 3, 4, 5, 6, 7, 8);
    }

    /** Promise 43. */
    private static void taken() {
        TwoAlike x = new TwoAlike();
        String[] unders = {"0", "01", "02", "023", "014", "0235", "06", "0147"};
        for (int kind = 0; kind < 8; kind++) {
            x.keep(0, x.body(kind));
            for (int k = 0; k < 8; k++) {
                due.is("kind " + kind + " for " + k, x.taken(0, k), unders[kind].indexOf('0' + k) >= 0 ? kind : -12);
            }
        }
        due.is("kind", x.taken(0, 8), -1);
        due.is("kind", x.taken(0, -1), -1);
        due.is("shelf", x.taken(6, 0), -1);
        due.is("shelf", x.taken(-1, 0), -1);
        due.is("nothing", x.taken(1, 0), -11);
        due.is("BAD ahead of -11", x.taken(1, 8), -1);
        x.row(1, 0, 3);
        due.is("a row", x.taken(1, 0), -12);
    }
}
