import java.util.List;

/** Promises 38 to 43 at their edges: what shelves hold, rows, elements, the host's refusals. */
public final class ShelvesBoundsTest {
    private static final Due due = new Due("ShelvesBoundsTest");
    private static final String[] SORTS = {"bytes", "shorts", "ints", "longs", "booleans"};
    // By sort: the greatest and the least number that a row keeps as it is.
    private static final long[] GREATEST = {127, 32767, Integer.MAX_VALUE, Long.MAX_VALUE, 1};
    private static final long[] LEAST = {-128, -32768, Integer.MIN_VALUE, Long.MIN_VALUE, 0};

    public static void main(String[] args) {
        keepRefused();
        keep();
        rowRefused();
        row();
        putRefused();
        put();
        lowestBits();
        booleans();
        elementRefused();
        element();
        shiftRefused();
        shiftPlaces();
        shiftNone();
        shift();
        shiftOfEachSort();
        takenRefused();
        taken();
        due.close();
    }

    private static void run(String name, Object... told) {
        Script.run(due, name, told);
    }

    private static void inRich(String name, Object... told) {
        Script.run(due, name, Script.RICH, Script.all(told));
    }

    private static List<String> elements(int shelf, long... want) {
        List<String> lines = Script.all();
        for (int i = 0; i < want.length; i++) lines.add("element(" + shelf + ", " + i + ") ! " + want[i]);
        lines.add("element(" + shelf + ", " + want.length + ") ! LEAST");
        return lines;
    }

    private static void keepRefused() {
        inRich("38: shelf", "keep(-1, 0) ! BAD", "keep(6, 0) ! BAD", "keep(-1, -1) ! BAD", "keep(6, -1) ! BAD",
            "keep(MIN, 0) ! BAD", "keep(MAX, -1) ! BAD");
        inRich("38: body", "keep(0, -2) ! BAD", "keep(0, 2) ! BAD", "keep(2, 2) ! BAD", "keep(0, 50) ! BAD",
            "keep(0, MIN) ! BAD", "keep(0, MAX) ! BAD");
        run("38: no bodies", "keep(0, 0) ! BAD", "keep(0, -1) ! 1");
    }

    private static void keep() {
        run("38: the first and the last shelf", "body(0)", "body(6)", "keep(0, 0) = 1", "keep(5, 1) = 1",
            "taken(0, 0) = 0", "taken(5, 0) = 6", "taken(1, 0) = -11", "taken(4, 0) = -11");
        run("38: the last body", Script.times(49, "body(0)"), "body(7) = 49", "keep(0, 49) = 1", "taken(0, 7) = 7",
            "keep(0, 50) ! BAD");
        run("38: one twin on two shelves", "body(3)", "keep(0, 0) = 1", "keep(1, 0) = 1", "keep(0, -1) = 1",
            "taken(1, 0) = 3");
        run("38: nothing in place of nothing", "keep(0, -1) ! 1");
        inRich("38: nothing in place of a row", "keep(0, -1) = 1", "put(0, 0, 1) ! -11", "taken(0, 0) ! -11",
            "people(0, 0, 1) ! 0", "shift(0, 0, 0, 0, 0) ! -11");
        inRich("38: nothing in place of a twin", "keep(2, -1) = 1", "taken(2, 5) ! -11", "put(2, 0, 1) ! -11");
        inRich("38: a twin in place of a row", "keep(0, 0) = 1", "put(0, 0, 1) ! -12", "taken(0, 7) ! 7",
            "people(0, 0, 1) ! -12");
        inRich("38: the same twin once more", "keep(2, 1) ! 1");
    }

    private static void rowRefused() {
        inRich("39: shelf", "row(-1, 0, 1) ! BAD", "row(6, 0, 1) ! BAD", "row(MIN, 0, 1) ! BAD",
            "row(MAX, 0, 1) ! BAD");
        inRich("39: sort", "row(0, -1, 1) ! BAD", "row(0, 5, 1) ! BAD", "row(0, MIN, 1) ! BAD", "row(0, MAX, 1) ! BAD");
        inRich("39: n too great", "row(0, 0, 61) ! BAD", "row(0, 3, 61) ! BAD", "row(0, 4, MAX) ! BAD");
        inRich("39: n below 0", "row(0, 0, -1) ! -14", "row(2, 4, -1) ! -14", "row(5, 2, MIN) ! -14");
        inRich("39: BAD ahead of -14", "row(6, 0, -1) ! BAD", "row(-1, 0, -1) ! BAD", "row(0, 5, -1) ! BAD",
            "row(0, -1, MIN) ! BAD", "row(MAX, MAX, MIN) ! BAD");
    }

    private static void row() {
        for (int sort = 0; sort < 5; sort++) {
            String of = ", " + sort + ", ";
            run("39: no " + SORTS[sort], "row(0" + of + "0) = 1", "element(0, 0) ! LEAST", "put(0, 0, 1) ! -13",
                "put(0, -1, 1) ! -13", "shift(0, 0, 0, 0, 0) ! 0");
            run("39: one of " + SORTS[sort], "row(0" + of + "1) = 1", elements(0, 0), "put(0, 0, 1) = 1",
                elements(0, 1));
            run("39: most " + SORTS[sort], "row(5" + of + "60) = 1", Script.each(0, 59, "element(5, #) = 0"),
                "element(5, 60) ! LEAST", "put(5, 60, 1) ! -13", "put(5, 59, 1) = 1");
            run("39: anew, 0 again, " + SORTS[sort], "row(0" + of + "2) = 1", "put(0, 0, 1)", "put(0, 1, 1)",
                "row(0" + of + "2) = 1", elements(0, 0, 0));
            run("39: shorter, then longer, " + SORTS[sort], "row(0" + of + "3) = 1", "put(0, 2, 1)",
                "row(0" + of + "1) = 1", "element(0, 2) ! LEAST", "row(0" + of + "3) = 1", elements(0, 0, 0, 0));
        }
        run("39: of another sort", "row(0, 3, 2)", "put(0, 0, 300)", "row(0, 0, 2) = 1", elements(0, 0, 0),
            "put(0, 0, 300) = 1", elements(0, 44, 0));
        run("39: of its own", "row(0, 2, 2)", "row(1, 2, 2)", "put(0, 0, 5)", elements(1, 0, 0), elements(0, 5, 0));
        inRich("39: in place of a twin", "row(2, 2, 1) = 1", "taken(2, 0) ! -12", "put(2, 0, 7) = 1",
            "element(2, 0) ! 7");
    }

    private static void putRefused() {
        inRich("40: shelf", "put(-1, 0, 1) ! BAD", "put(6, 0, 1) ! BAD", "put(MIN, 0, 1) ! BAD",
            "put(MAX, 0, 1) ! BAD");
        inRich("40: nothing there", "put(5, 0, 1) ! -11", "put(5, -1, 1) ! -11", "put(5, 60, 1) ! -11",
            "put(5, MIN, 1) ! -11");
        inRich("40: a twin", "put(2, 0, 1) ! -12", "put(2, -1, 1) ! -12", "put(2, MAX, 1) ! -12");
        inRich("40: place", "put(0, -1, 1) ! -13", "put(0, 5, 1) ! -13", "put(0, MIN, 1) ! -13", "put(0, MAX, 1) ! -13",
            "put(3, 0, 1) ! -13", "put(3, -1, 1) ! -13", "put(4, 60, 1) ! -13");
        inRich("40: BAD ahead of all", "put(-1, -1, 1) ! BAD", "put(6, MAX, LEAST) ! BAD");
    }

    private static void put() {
        run("40: the first and the last place", "row(0, 2, 60)", "put(0, 0, 7) = 1", "put(0, 59, 8) = 1",
            "element(0, 0) = 7", "element(0, 59) = 8", "element(0, 1) = 0", "element(0, 58) = 0");
        run("40: the last place of one shelf is not the first of the next", "row(0, 2, 60)", "row(1, 2, 60)",
            "row(2, 2, 60)", "put(1, 0, 1)", "put(1, 59, 2)", "element(0, 59) = 0", "element(2, 0) = 0");
        run("40: the last shelf", "row(5, 3, 60)", "put(5, 59, MOST) = 1", "element(5, 59) = 9223372036854775807");
        run("40: once more", "row(0, 2, 1)", "put(0, 0, 7) = 1", "put(0, 0, 8) = 1", elements(0, 8),
            "put(0, 0, 8) ! 1");
    }

    private static void lowestBits() {
        for (int sort = 0; sort < 4; sort++) {
            String row = "row(0, " + sort + ", 1)";
            long great = GREATEST[sort], least = LEAST[sort];
            run("40: the greatest and the least of " + SORTS[sort], row, "put(0, 0, " + great + ") = 1",
                elements(0, great), "put(0, 0, " + least + ") = 1", elements(0, least), "put(0, 0, -1) = 1",
                elements(0, -1), "put(0, 0, 0) = 1", elements(0, 0));
            if (sort < 3) {
                run("40: one more than " + SORTS[sort] + " hold, one less", row, "put(0, 0, " + (great + 1) + ") = 1",
                    elements(0, least), "put(0, 0, " + (least - 1) + ") = 1", elements(0, great));
                run("40: twice as much as " + SORTS[sort] + " hold", row, "put(0, 0, " + 2 * (great + 1) + ") = 1",
                    elements(0, 0), "put(0, 0, " + (2 * great + 1) + ") = 1", elements(0, -1));
            }
            run("40: the ends of a long in " + SORTS[sort], row, "put(0, 0, MOST) = 1",
                elements(0, sort == 3 ? great : -1), "put(0, 0, LEAST) = 1", elements(0, sort == 3 ? least : 0));
        }
    }

    private static void booleans() {
        for (String so : List.of("1", "-1", "2", "256", "65536", "4294967296", "MOST",
            "LEAST")) run("40: a boolean of " + so, "row(0, 4, 1)", "put(0, 0, " + so + ") = 1", elements(0, 1));
        run("40: a boolean of 0", "row(0, 4, 1)", "put(0, 0, 1)", "put(0, 0, 0) = 1", elements(0, 0));
    }

    private static void elementRefused() {
        inRich("41: shelf", "element(-1, 0) ! LEAST", "element(6, 0) ! LEAST", "element(MIN, 0) ! LEAST",
            "element(MAX, 0) ! LEAST");
        inRich("41: nothing there", "element(5, 0) ! LEAST", "element(5, -1) ! LEAST");
        inRich("41: a twin", "element(2, 0) ! LEAST", "element(2, -1) ! LEAST");
        inRich("41: place", "element(0, -1) ! LEAST", "element(0, 5) ! LEAST", "element(3, 0) ! LEAST",
            "element(4, 60) ! LEAST", "element(0, MIN) ! LEAST", "element(0, MAX) ! LEAST");
    }

    private static void element() {
        inRich("41: asked", elements(0, 5, 6, 7, 64, 0), elements(1, -9, 0, 0, Long.MIN_VALUE), "element(4, 59) ! 1",
            "element(4, 0) ! 0");
    }

    private static void shiftRefused() {
        inRich("42: shelf, either", "shift(-1, 0, 0, 0, 1) ! BAD", "shift(6, 0, 0, 0, 1) ! BAD",
            "shift(0, 0, -1, 0, 1) ! BAD", "shift(0, 0, 6, 0, 1) ! BAD", "shift(MIN, 0, MAX, 0, 1) ! BAD");
        inRich("42: BAD ahead of -11", "shift(5, 0, 6, 0, 1) ! BAD", "shift(-1, 0, 5, 0, 1) ! BAD");
        inRich("42: nothing there, either", "shift(5, 0, 0, 0, 1) ! -11", "shift(0, 0, 5, 0, 1) ! -11",
            "shift(5, 0, 5, 0, 0) ! -11", "shift(5, 0, 0, 0, 0) ! -11");
        inRich("42: -11 ahead of -12", "shift(5, 0, 2, 0, 1) ! -11", "shift(2, 0, 5, 0, 1) ! -11");
        inRich("42: -11 ahead of -13", "shift(5, -1, 0, 0, 1) ! -11", "shift(0, 9, 5, 0, -1) ! -11");
        inRich("42: a twin, either", "shift(2, 0, 0, 0, 1) ! -12", "shift(0, 0, 2, 0, 1) ! -12",
            "shift(2, 0, 2, 0, 0) ! -12");
        inRich("42: unlike sorts", "shift(0, 0, 1, 0, 1) ! -12", "shift(1, 0, 0, 0, 1) ! -12",
            "shift(0, 0, 4, 0, 0) ! -12");
        inRich("42: -12 ahead of -13", "shift(0, -1, 1, 0, 1) ! -12", "shift(0, 0, 1, 99, 1) ! -12",
            "shift(0, 0, 1, 0, -1) ! -12", "shift(2, -1, 2, -1, -1) ! -12");
        for (int sort = 0; sort < 5; sort++) {
            for (int other = 0; other < 5; other++) {
                run("42: sorts " + sort + " and " + other, "row(0, " + sort + ", 1)", "row(1, " + other + ", 1)",
                    "put(0, 0, 1)", "shift(0, 0, 1, 0, 1) = " + (sort == other ? 1 : -12),
                    "element(1, 0) = " + (sort == other ? 1 : 0));
            }
        }
    }

    /** Five bytes to the other three. */
    private static void shiftPlaces() {
        List<String> rows = Script.all("row(0, 0, 5)", Script.each(0, 4, "put(0, #, 1#)"), "row(1, 0, 3)");
        run("42: just as many as are there", rows, "shift(0, 0, 1, 0, 3) = 3", elements(1, 10, 11, 12));
        run("42: one more than there is room for", rows, "shift(0, 0, 1, 0, 4) ! -13");
        run("42: up to the end", rows, "shift(0, 2, 1, 0, 3) = 3", elements(1, 12, 13, 14));
        run("42: one behind the end", rows, "shift(0, 3, 1, 0, 3) ! -13");
        run("42: up to the other's end", rows, "shift(0, 0, 1, 1, 2) = 2", elements(1, 0, 10, 11));
        run("42: one behind the other's end", rows, "shift(0, 0, 1, 2, 2) ! -13");
        run("42: the last place of both", rows, "shift(0, 4, 1, 2, 1) = 1", elements(1, 0, 0, 14));
        run("42: behind the last place", rows, "shift(0, 5, 1, 0, 1) ! -13", "shift(0, 0, 1, 3, 1) ! -13");
        run("42: ahead of the first place", rows, "shift(0, -1, 1, 0, 1) ! -13", "shift(0, 0, 1, -1, 1) ! -13",
            "shift(0, MIN, 1, 0, 1) ! -13", "shift(0, 0, 1, MIN, 1) ! -13");
        run("42: far behind", rows, "shift(0, MAX, 1, 0, 1) ! -13", "shift(0, 0, 1, MAX, 1) ! -13",
            "shift(0, MAX, 1, MAX, MAX) ! -13");
        run("42: too many by far", rows, "shift(0, 0, 1, 0, MAX) ! -13", "shift(0, 1, 1, 1, MAX) ! -13");
        run("42: less than none", rows, "shift(0, 0, 1, 0, -1) ! -13", "shift(0, 0, 1, 0, MIN) ! -13",
            "shift(0, 5, 1, 3, -1) ! -13", "shift(0, 0, 0, 0, -1) ! -13");
    }

    private static void shiftNone() {
        List<String> rows = Script.all("row(0, 0, 5)", Script.each(0, 4, "put(0, #, 1#)"), "row(1, 0, 3)",
            "row(2, 0, 0)");
        run("42: none", rows, "shift(0, 0, 1, 0, 0) ! 0", "shift(0, 4, 1, 2, 0) ! 0");
        run("42: none at both ends", rows, "shift(0, 5, 1, 3, 0) ! 0");
        run("42: none behind the end", rows, "shift(0, 6, 1, 0, 0) ! -13", "shift(0, 0, 1, 4, 0) ! -13",
            "shift(0, MAX, 1, 0, 0) ! -13", "shift(0, 0, 1, MAX, 0) ! -13");
        run("42: none ahead of the first place", rows, "shift(0, -1, 1, 0, 0) ! -13", "shift(0, 0, 1, -1, 0) ! -13");
        run("42: none of none", rows, "shift(2, 0, 2, 0, 0) ! 0", "shift(2, 0, 0, 5, 0) ! 0",
            "shift(0, 5, 2, 0, 0) ! 0", "shift(2, 1, 0, 0, 0) ! -13", "shift(0, 0, 2, 1, 0) ! -13");
        run("42: one of none", rows, "shift(2, 0, 0, 0, 1) ! -13", "shift(0, 0, 2, 0, 1) ! -13");
    }

    private static void shift() {
        List<String> row = Script.all("row(0, 2, 5)", Script.each(0, 4, "put(0, #, 1#)"));
        run("42: to the same, up by one", row, "shift(0, 0, 0, 1, 4) = 4", elements(0, 10, 10, 11, 12, 13));
        run("42: to the same, down by one", row, "shift(0, 1, 0, 0, 4) = 4", elements(0, 11, 12, 13, 14, 14));
        run("42: to the same places", row, "shift(0, 0, 0, 0, 5) ! 5");
        run("42: to the same, apart", row, "shift(0, 0, 0, 3, 2) = 2", elements(0, 10, 11, 12, 10, 11));
        run("42: the whole of the longest", "row(0, 1, 60)", Script.each(0, 59, "put(0, #, #)"), "row(5, 1, 60)",
            "shift(0, 0, 5, 0, 60) = 60", Script.each(0, 59, "element(5, #) = #"), "shift(0, 0, 5, 0, 61) ! -13");
        run("42: from the last shelf to the first", "row(5, 1, 3)", Script.each(0, 2, "put(5, #, 2#)"), "row(0, 1, 3)",
            "row(4, 1, 3)", "shift(5, 1, 0, 0, 2) = 2", elements(0, 21, 22, 0), elements(4, 0, 0, 0),
            elements(5, 20, 21, 22), "shift(5, 0, 4, 2, 1) = 1", elements(4, 0, 0, 20));
        run("42: the one it comes from stays", row, "row(1, 2, 2)", "shift(0, 3, 1, 0, 2) = 2",
            elements(0, 10, 11, 12, 13, 14), elements(1, 13, 14));
    }

    private static void shiftOfEachSort() {
        for (int sort = 0; sort < 5; sort++) {
            run("42: " + SORTS[sort], "row(0, " + sort + ", 2)", "put(0, 0, " + GREATEST[sort] + ")",
                "put(0, 1, " + LEAST[sort] + ")", "row(1, " + sort + ", 2)", "shift(0, 0, 1, 0, 2) = 2",
                elements(1, GREATEST[sort], LEAST[sort]));
        }
    }

    private static void takenRefused() {
        inRich("43: shelf", "taken(-1, 0) ! BAD", "taken(6, 0) ! BAD", "taken(MIN, 0) ! BAD", "taken(MAX, 0) ! BAD");
        inRich("43: kind", "taken(2, -1) ! BAD", "taken(2, 8) ! BAD", "taken(2, MIN) ! BAD", "taken(2, MAX) ! BAD");
        inRich("43: BAD ahead of -11", "taken(5, -1) ! BAD", "taken(5, 8) ! BAD");
        inRich("43: BAD ahead of -12", "taken(0, -1) ! BAD", "taken(0, 8) ! BAD");
        inRich("43: nothing there", Script.each(0, 7, "taken(5, #) ! -11"));
        inRich("43: rows", Script.each(0, 7, "taken(0, #) ! -12"), "taken(1, 0) ! -12", "taken(3, 0) ! -12",
            "taken(4, 7) ! -12");
    }

    /** By kind: the kinds for which one of it can be taken. */
    private static void taken() {
        String[] above = {"0", "01", "02", "023", "014", "0235", "06", "0147"};
        for (int kind = 0; kind < 8; kind++) {
            List<String> lines = Script.all("body(" + kind + ")", "keep(5, 0)");
            for (int k = 0; k < 8; k++) lines.add("taken(5, " + k + ") ! " + (above[kind].indexOf('0' + k) >= 0 ? kind : -12));
            run("43: kind " + kind, lines);
        }
        run("43: its kind, not its number", "body(7)", "body(7)", "body(6)", "keep(0, 2)", "taken(0, 0) ! 6",
            "taken(0, 6) ! 6");
    }
}
