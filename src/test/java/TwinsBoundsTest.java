import java.util.List;

/** Promises 35 to 37 and 44 at their edges: bodies, acts, the trace, how many. */
public final class TwinsBoundsTest {
    private static final Due due = new Due("TwinsBoundsTest");
    private static final List<String> KINDS = Script.each(0, 7, "body(#) = #");
    private static final List<String> FIFTY = Script.all(Script.each(0, 6, "body(#) = #"),
        Script.each(7, 49, "body(7) = #"));

    public static void main(String[] args) {
        body();
        actRefused();
        everyActOfEveryKind();
        actsThatWrap();
        bodyNumberCounts();
        traceRefused();
        traceOfTheLatest();
        traceIsNeverFull();
        countRefused();
        countsEmptyAndFull();
        countsAreAsked();
        due.close();
    }

    private static void run(String name, Object... told) {
        Script.run(due, name, told);
    }

    private static void inRich(String name, Object... told) {
        Script.run(due, name, Script.RICH, Script.all(told));
    }

    /** An act and its whole trace. */
    private static List<String> act(int body, int act, String x, String answer, int... trace) {
        List<String> lines = Script.all("act(" + body + ", " + act + ", " + x + ") = " + answer,
            "count(6) = " + trace.length);
        for (int i = 0; i < trace.length; i++) lines.add("trace(" + i + ") = " + trace[i]);
        lines.add("trace(" + trace.length + ") = BAD");
        return lines;
    }

    private static void body() {
        inRich("35: kind", "body(-1) ! BAD", "body(8) ! BAD", "body(MIN) ! BAD", "body(MAX) ! BAD");
        run("35: the first and the last kind", "body(0) = 0", "body(7) = 1", "keep(0, 0)", "taken(0, 0) = 0",
            "keep(0, 1)", "taken(0, 0) = 7");
        run("35: the fiftieth comes, one more not", Script.each(0, 49, "body(0) = #"), "body(0) ! FULL",
            "count(5) = 50", "act(49, 0, 1) = 50", "act(50, 0, 1) = 0");
        run("35: BAD ahead of FULL", FIFTY, "body(8) ! BAD", "body(-1) ! BAD", "body(7) ! FULL");
        run("35: a refused one takes no number", "body(8) ! BAD", "body(1) = 0", "body(-1) ! BAD", "body(2) = 1");
    }

    private static void actRefused() {
        run("36: no twins", "act(0, 0, 5) ! 0", "act(-1, 0, 5) ! 0", "count(6) ! 0", "trace(0) ! BAD");
        String[] refused = {"act(-1, 0, 5)", "act(2, 0, 5)", "act(50, 0, 5)", "act(MIN, 3, 5)", "act(MAX, 3, 5)",
            "act(0, -1, 5)", "act(0, 4, 5)", "act(1, MIN, 5)", "act(1, MAX, 5)", "act(2, 4, 5)"};
        for (String bad : refused) {
            inRich("36: no such twin or act, and no trace then", "count(6) = 14", bad + " = 0", "count(6) = 0",
                "trace(0) = BAD", "trace(13) = BAD", bad + " ! 0");
        }
        run("36: the first and the last act", "body(0)", act(0, 0, "5", "5", 1), act(0, 3, "5", "9", 2, 10, 1, 11),
            "act(0, 4, 5) = 0", "act(0, -1, 5) = 0");
        run("36: the last twin", FIFTY, act(49, 0, "5", "57", 20, 1), "act(50, 0, 5) = 0", "count(6) = 0");
    }

    /** The twin's number is that of its kind; x 5. */
    private static void everyActOfEveryKind() {
        run("36: TWIN", KINDS, act(0, 0, "5", "5", 1), act(0, 1, "5", "10", 10, 1), act(0, 2, "5", "5", 11),
            act(0, 3, "5", "9", 2, 10, 1, 11));
        run("36: HATTED", KINDS, act(1, 0, "5", "9", 20, 1), act(1, 1, "5", "18", 10, 20, 1), act(1, 2, "5", "4", 11),
            act(1, 3, "5", "18", 2, 10, 20, 1, 11));
        run("36: HOME", KINDS, act(2, 0, "5", "7", 1), act(2, 1, "5", "-14", 30, 10, 1), act(2, 2, "5", "7", 11),
            act(2, 3, "5", "-17", 2, 30, 10, 1, 11));
        run("36: BELLED", KINDS, act(3, 0, "5", "8", 1), act(3, 1, "5", "-18", 41, 30, 10, 1),
            act(3, 2, "5", "18", 40, 11), act(3, 3, "5", "-24", 2, 41, 30, 10, 1, 40, 11));
        run("36: BRIDE", KINDS, act(4, 0, "5", "12", 20, 1), act(4, 1, "5", "24", 10, 20, 1),
            act(4, 2, "5", "-8", 50, 11, 20, 1), act(4, 3, "5", "28", 2, 10, 20, 1, 50, 11, 20, 1));
        run("36: DEAD", KINDS, act(5, 0, "5", "10", 1), act(5, 1, "5", "-22", 41, 30, 10, 1),
            act(5, 2, "5", "0", 40, 11), act(5, 3, "5", "-37", 60, 2, 41, 30, 10, 1, 40, 11));
        run("36: SEEN", KINDS, act(6, 0, "5", "22", 70, 1), act(6, 1, "5", "44", 10, 70, 1), act(6, 2, "5", "3", 11),
            act(6, 3, "5", "37", 2, 10, 70, 1, 11));
        run("36: PASSED", KINDS, act(7, 0, "5", "15", 20, 1), act(7, 1, "5", "23", 80, 10, 20, 1, 50, 11, 20, 1),
            act(7, 2, "5", "-10", 50, 11, 20, 1),
            act(7, 3, "5", "28", 81, 2, 80, 10, 20, 1, 50, 11, 20, 1, 50, 11, 20, 1));
    }

    private static void actsThatWrap() {
        run("36: looks wraps", KINDS, "act(0, 0, MAX) = MAX", "act(1, 0, MAX) = -2147483645",
            "act(2, 0, MAX) = -2147483647", "act(2, 0, MIN) = -2147483646", "act(6, 0, 1073741818) = -2147483648",
            "act(6, 0, 1073741817) = 2147483646");
        run("36: walks wraps", KINDS, "act(0, 1, MAX) = -2", "act(0, 1, MIN) = 0", "act(0, 1, 1073741823) = 2147483646",
            "act(0, 1, 1073741824) = MIN", "act(2, 1, 1073741822) = MIN", "act(3, 1, MAX) = -6", "act(3, 1, MIN) = -8");
        run("36: waits wraps", KINDS, "act(0, 2, MIN) = MIN", "act(1, 2, MAX) = 2147483646",
            "act(3, 2, MAX) = 2147483636", "act(3, 2, MIN) = -2147483639", "act(4, 2, MIN) = 2147483643");
        run("36: tells wraps", KINDS, "act(0, 3, MAX) = -3", "act(0, 3, 1073741824) = MAX", "act(0, 3, MIN) = -1");
    }

    private static void bodyNumberCounts() {
        run("36: n is the number of the body, not its kind", "body(7) = 0", "body(0) = 1", "body(0) = 2",
            "act(1, 0, 10) = 11", "act(2, 0, 10) = 12", "act(0, 0, 10) = 13", "act(2, 2, 3) = 1");
        run("36: the greatest number", FIFTY, "act(49, 2, 0) = -5", "act(6, 0, 0) = 12", "act(49, 0, -49) = 3");
    }

    private static void traceRefused() {
        inRich("37: i", "trace(-1) ! BAD", "trace(14) ! BAD", "trace(23) ! BAD", "trace(24) ! BAD", "trace(25) ! BAD",
            "trace(MIN) ! BAD", "trace(MAX) ! BAD");
        run("37: no act yet", "body(0)", "trace(0) ! BAD", "count(6) ! 0");
        inRich("37: the first and the last body", "trace(0) ! 81", "trace(13) ! 1");
    }

    private static void traceOfTheLatest() {
        run("37: a shorter one", KINDS, act(7, 3, "5", "28", 81, 2, 80, 10, 20, 1, 50, 11, 20, 1, 50, 11, 20, 1),
            act(0, 0, "5", "5", 1));
        run("37: a longer one", KINDS, act(0, 2, "5", "5", 11), act(1, 0, "5", "9", 20, 1));
        inRich("37: it stays as long as no act came", "body(8) ! BAD", "keep(6, 0) ! BAD", "taken(2, 0) ! 5",
            "trace(0) ! 81", "body(1) = 2", "trace(0) ! 81", "count(6) ! 14");
    }

    /** The longest act has 14 bodies, so that all of them are among the first 24. */
    private static void traceIsNeverFull() {
        int longest = 0;
        TwoAlike x = new TwoAlike();
        for (int kind = 0; kind < 8; kind++) {
            x.body(kind);
            for (int act = 0; act < 4; act++) {
                x.act(kind, act, 3);
                longest = Math.max(longest, x.count(6));
                due.is("37: the last body of " + kind + " " + act, x.trace(x.count(6) - 1) > 0 ? 1 : 0, 1);
                due.is("37: behind the last body of " + kind + " " + act, x.trace(x.count(6)), -1);
            }
        }
        due.is("37: the most bodies", longest, 14);
    }

    private static void countRefused() {
        inRich("44: what", "count(-1) ! BAD", "count(7) ! BAD", "count(MIN) ! BAD", "count(MAX) ! BAD");
    }

    private static void countsEmptyAndFull() {
        run("44: nothing", Script.each(0, 6, "count(#) ! 0"));
        run("44: all people", Script.each(0, 6, "person(0, 0)"), "count(0) = 7", "person(0, 0) = FULL", "count(0) = 7");
        run("44: all errands", Script.each(0, 6, "person(0, 0)"), Script.times(4, "errand(0, 1)"),
            Script.times(4, "errand(1, 1)"), Script.times(4, "errand(2, 1)"), Script.times(4, "errand(3, 1)"),
            Script.times(4, "errand(4, 1)"), Script.times(4, "errand(5, 1)"), Script.times(4, "errand(6, 1)"),
            "count(1) = 28", "errand(6, 1) = FULL", "count(1) = 28", "clear(6) = 4", "count(1) = 24");
        run("44: all sights", Script.times(10, "sight(0, 0)"), "count(2) = 10", "sight(0, 0) = FULL", "count(2) = 10");
        run("44: a full tape", Script.times(120, "feed(0)"), "count(3) = 120", "feed(0) = FULL", "count(3) = 120",
            "law()", "count(3) = 0");
        run("44: all changes", Script.each(1, 6, "mend(0, 3, #)"), Script.each(1, 11, "mend(0, 4, #)"),
            Script.each(1, 6, "mend(0, 3, #)"), "count(4) = 23", "undo()", "count(4) = 22", "redo()", "count(4) = 23",
            Script.each(0, 10, "mend(0, 4, #)"), Script.each(1, 6, "mend(0, 3, #)"), "count(4) = 40", "mend(0, 3, 0)",
            "count(4) = 40");
        run("44: all bodies", FIFTY, "count(5) = 50", "body(0) = FULL", "count(5) = 50");
    }

    private static void countsAreAsked() {
        inRich("44: asked", "count(0) ! 3", "count(1) ! 5", "count(2) ! 3", "count(3) ! 3", "count(4) ! 4",
            "count(5) ! 2", "count(6) ! 14");
    }
}
