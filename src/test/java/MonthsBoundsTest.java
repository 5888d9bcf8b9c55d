import java.util.List;

/** Promises 29 to 34 at their edges: months, the image, changes undone and done again. */
public final class MonthsBoundsTest {
    private static final Due due = new Due("MonthsBoundsTest");
    private static final List<String> SEVEN = Script.each(0, 6, "person(#, 63) = #");
    private static final List<String> FORTY = Script.all("person(0, 0)", Script.each(1, 40, "mend(0, 0, #)"));

    public static void main(String[] args) {
        months();
        monthsInThought();
        turn();
        turnIsNoChange();
        image();
        backRefused();
        back();
        backLeaves();
        undo();
        redo();
        forgets();
        redoAsLongAsNoOther();
        whatIsNoChange();
        due.close();
    }

    private static void run(String name, Object... told) {
        Script.run(due, name, told);
    }

    private static void inRich(String name, Object... told) {
        Script.run(due, name, Script.RICH, Script.all(told));
    }

    private static void months() {
        inRich("29: n", "months(0) ! BAD", "months(-1) ! BAD", "months(13) ! BAD", "months(MIN) ! BAD",
            "months(MAX) ! BAD");
        run("29: nobody", "months(1) ! 0", "months(12) ! 0", "months(13) ! BAD");
        run("29: the least and the greatest n", "person(0, 0)", "person(1, 0)", "mend(0, 2, 1)", "months(1) ! 1",
            "months(12) ! 0", "months(11) ! 1");
        run("29: all pairs", SEVEN, "mend(0, 3, 6)", "months(1) ! 21");
        run("29: both drift", "person(0, 0)", "person(1, 0)", "mend(0, 2, 1)", "mend(1, 2, 1)",
            Script.each(1, 12, "months(#) ! 0"));
        run("29: all parts drift", "person(0, 0)", "person(63, 0)", "mend(0, 2, 63)", "months(1) ! 1", "months(2) ! 0");
        run("29: with hats as they are", "person(0, 1)", "person(3, 0)", "hat(0, 0)", "mend(0, 2, 2)", "months(1) ! 1",
            "hat(0, -1)", "months(1) ! 0");
        run("29: what drifts and is turned by a hat, too", "person(0, 1)", "person(0, 0)", "hat(0, 0)", "mend(0, 2, 1)",
            "needs() ! 0", "months(1) ! 1", "months(2) ! 0");
        inRich("29: asked", "months(1) ! 3", "months(2) ! 2");
    }

    private static void monthsInThought() {
        run("29: the month goes on by 12", "person(0, 0)", "person(63, 0)", "mend(0, 4, 11)", "say 'm=0'",
            "months(1) ! 1", "months(2) ! 0", "months(12) ! 0", "say 'm=11'", "months(12) ! 1", "months(1) ! 0",
            "say 'm=10'", "months(11) ! 1", "months(12) ! 0");
        run("29: from month 0", "person(0, 0)", "person(63, 0)", "say 'm=11'", "months(11) ! 1", "say 'm=0'",
            "months(12) ! 1", "months(11) ! 0");
        run("29: ease stays", "person(0, 0)", "person(63, 0)", "mend(0, 3, 5)", "say 'e=5'", "months(12) ! 1");
    }

    private static void turn() {
        run("30: nobody", "turn() = 1", "of(0, 11) = 1");
        run("30: the last month but one", "mend(0, 4, 10)", "turn() = 11", "of(0, 11) = 11");
        run("30: the last month wraps", "mend(0, 4, 11)", "turn() = 0", "of(0, 11) = 0", "turn() = 1");
        run("30: no drift", "person(5, 0)", "turn() = 1", "of(0, 0) = 5");
        run("30: all parts drift", "person(5, 0)", "mend(0, 2, 63)", "turn() = 1", "of(0, 0) = 58", "of(0, 2) = 63",
            "turn() = 2", "of(0, 0) = 5");
        run("30: all people", SEVEN, Script.each(0, 6, "mend(#, 2, 8)"), "turn() = 1", "of(0, 0) = 8", "of(6, 0) = 14",
            "of(6, 1) = 63");
        run("30: a hat stays", "person(0, 1)", "hat(0, 0)", "mend(0, 2, 1)", "turn() = 1", "of(0, 0) = 1",
            "of(0, 3) = 0", "of(0, 4) = 0");
        run("30: as it was thought", "person(0, 0)", "person(1, 0)", "mend(0, 2, 1)", "months(1) = 1", "turn() = 1",
            "needs() = 1");
    }

    private static void turnIsNoChange() {
        run("30: nothing to undo", "person(1, 0)", "turn() = 1", "undo() ! STATE", "count(4) = 0");
        run("30: what was undone may still be done again", "person(1, 0)", "mend(0, 0, 2)", "undo() = 0", "turn() = 1",
            "redo() = 0", "of(0, 0) = 2");
        run("30: a change ahead of it is undone by the number that was told", "person(1, 0)", "mend(0, 2, 4)",
            "mend(0, 0, 2)", "turn() = 1", "of(0, 0) = 6", "undo() = 1", "of(0, 0) = 1", "of(0, 11) = 1", "redo() = 0",
            "of(0, 0) = 2");
        run("30: a month that was told is undone by its number", "mend(0, 4, 5)", "turn() = 6", "undo() = 0",
            "of(0, 11) = 0", "redo() = 0", "of(0, 11) = 5");
    }

    private static void image() {
        run("31: nobody", "image() = 0", "image() ! 0", "back() ! 0");
        run("31: all people", SEVEN, "image() = 7", "image() ! 7");
        run("31: the latest one", "person(0, 1)", "image() = 1", "hat(0, 0)", "person(0, 1)", "image() = 2",
            "hat(0, -1)", "back() = 2", "of(0, 3) = 0");
        inRich("31: once more", "image() = 3", "image() ! 3");
    }

    private static void backRefused() {
        run("32: none", "back() ! STATE");
        run("32: none, with everything there is", Script.RICH.subList(0, Script.RICH.indexOf("image() = 3")),
            "back() ! STATE");
    }

    private static void back() {
        inRich("32: laid back", "back() = 3", "of(0, 3) = 1", "of(1, 3) = 4", "count(2) = 2", "watch(20, 0) = NOT",
            "watch(2, 0) = 52", "back() ! 3");
        run("32: came since: no hat", "image() = 0", "person(0, 1)", "hat(0, 0)", "back() = 0", "of(0, 3) = -1");
        run("32: came since: at home", "person(0, 0)", "image() = 1", "person(0, 0)", "go(1, 29, 4)", "go(0, 5, 4)",
            "back() = 1", "watch(10, 0) = NOT", "watch(1, 0) = NOT");
        run("32: the seventh came since", Script.each(0, 5, "person(#, 63)"), "image() = 6", "person(0, 32)",
            "hat(6, 5)", "go(6, 29, 0)", "back() = 6", "of(6, 3) = -1", "watch(60, 1) = 0", "count(0) = 7");
        run("32: the seventh was there", SEVEN, "hat(6, 5)", "go(6, 2929, 4)", "image() = 7", "hat(6, -1)",
            "go(6, 29, -1)", "back() = 7", "of(6, 3) = 5", "watch(60, 0) = 294");
        run("32: sights that came since", "sight(0, 0)", "image() = 0", Script.times(9, "sight(11, 1)"),
            "sight(0, 0) ! FULL", "back() = 0", "count(2) = 1", "of(1, 20) = VOID", "sight(22, 2) = 1");
        run("32: ten sights", Script.each(0, 9, "sight(#0, #)"), "image() = 0", "back() ! 0", "count(2) = 10",
            "of(9, 22) = 9");
        run("32: no sights", "image() = 0", "sight(0, 0)", "back() = 0", "count(2) = 0", "who(0) = BAD");
        run("32: the first and the last minute", "person(0, 0)", "person(0, 0)", "go(0, 0, 1)", "go(0, 2929, 4)",
            "image() = 2", "go(0, 29, 2)", "back() = 2", "watch(1, 0) = 1", "watch(1, 1) = 2", "go(1, 0, 1)",
            "watch(1, 0) = 294");
        run("32: a hat whose part may no longer change", "person(0, 1)", "hat(0, 0)", "image() = 1", "hat(0, -1)",
            "mend(0, 1, 0)", "back() = 1", "of(0, 3) = 0", "hat(0, 0) ! VOID");
        run("32: the image stays as it was kept", "person(0, 3)", "hat(0, 0)", "image() = 1", "back() = 1", "hat(0, 1)",
            "sight(0, 0)", "back() = 1", "of(0, 3) = 0", "count(2) = 0");
    }

    private static void backLeaves() {
        run("32: looks, may change, drift, ease, month stay", "person(1, 2)", "image() = 1", "mend(0, 0, 9)",
            "mend(0, 1, 8)", "mend(0, 2, 7)", "mend(0, 3, 6)", "mend(0, 4, 5)", "back() ! 1", "of(0, 0) = 9",
            "of(0, 1) = 8", "of(0, 2) = 7", "of(0, 10) = 6", "of(0, 11) = 5", "count(4) = 5");
        run("32: errands, the tape, the law, twins, shelves stay", "person(1, 2)", "person(2, 2)", "image() = 2",
            "errand(0, 11)", "say '1'", "feed('0')", "body(1)", "row(0, 0, 1)", "back() ! 2");
    }

    private static void undo() {
        run("33: none", "undo() ! STATE");
        run("33: none, of people and errands", "person(1, 1)", "errand(0, 11)", "hat(0, 0)", "undo() ! STATE");
        run("33: the only one", "person(1, 1)", "mend(0, 0, 2)", "undo() = 0", "of(0, 0) = 1", "undo() ! STATE");
        run("33: the latest first", "person(1, 1)", "mend(0, 0, 2)", "mend(0, 0, 3)", "undo() = 1", "of(0, 0) = 2",
            "undo() = 0", "of(0, 0) = 1", "undo() ! STATE");
        run("33: of each sort", "person(1, 2)", "mend(0, 0, 63)", "mend(0, 1, 63)", "mend(0, 2, 63)", "mend(0, 3, 6)",
            "mend(0, 4, 11)", "undo() = 4", "of(0, 11) = 0", "undo() = 3", "of(0, 10) = 0", "undo() = 2",
            "of(0, 2) = 0", "undo() = 1", "of(0, 1) = 2", "undo() = 0", "of(0, 0) = 1");
        run("33: of the last person", SEVEN, "mend(6, 0, 63)", "undo() = 0", "of(6, 0) = 6", "of(0, 0) = 0");
        run("33: a hat stays", "person(0, 0)", "mend(0, 1, 4)", "hat(0, 2)", "undo() = 0", "of(0, 1) = 0",
            "of(0, 3) = 2", "of(0, 4) = 4", "hat(0, 2) ! VOID");
    }

    private static void redo() {
        run("34: none", "redo() ! STATE");
        run("34: none undone", "person(1, 1)", "mend(0, 0, 2)", "redo() ! STATE");
        run("34: the only one", "person(1, 1)", "mend(0, 0, 2)", "undo() = 0", "redo() = 0", "of(0, 0) = 2",
            "redo() ! STATE", "count(4) = 1");
        run("34: the first one first", "mend(0, 3, 1)", "mend(0, 3, 2)", "undo() = 1", "undo() = 0", "redo() = 1",
            "of(0, 10) = 1", "redo() = 0", "of(0, 10) = 2", "redo() ! STATE");
        run("34: of the last person", SEVEN, "mend(6, 0, 63)", "undo() = 0", "redo() = 0", "of(6, 0) = 63");
        run("34: a hat stays", "person(0, 4)", "hat(0, 2)", "mend(0, 1, 0)", "undo() = 0", "redo() = 0",
            "of(0, 3) = 2");
        run("34: again and again", "mend(0, 4, 7)",
            Script.all("undo() = 0", "of(0, 11) = 0", "redo() = 0", "of(0, 11) = 7"),
            Script.all("undo() = 0", "redo() = 0", "undo() = 0"), "of(0, 11) = 0");
    }

    private static void forgets() {
        run("33: 40 are kept", FORTY, "count(4) = 40", "undo() = 39", "redo() = 0", "count(4) = 40");
        run("33: the 41st makes the first one forgotten", FORTY, "mend(0, 0, 63)", "count(4) = 40",
            Script.times(39, "undo()"), "of(0, 0) = 2", "undo() = 0", "of(0, 0) = 1", "undo() ! STATE");
        run("34: all that are kept are done again, what was forgotten stays", "person(0, 0)", "person(0, 0)",
            "mend(1, 1, 7)", "mend(1, 2, 9)", Script.each(1, 39, "mend(0, 0, #)"), "mend(0, 3, 6)", "mend(1, 0, 5)",
            Script.times(40, "undo()"), "of(0, 0) = 1", "undo() = STATE", "of(1, 1) = 7", "of(1, 2) = 9", "redo() = 39",
            "of(0, 0) = 2", Script.times(36, "redo()"), "of(0, 0) = 38", "redo() = 2", "of(0, 0) = 39", "redo() = 1",
            "of(0, 10) = 6", "of(1, 0) = 0", "redo() = 0", "of(1, 0) = 5", "redo() = STATE");
        run("33: 40, and none is forgotten", FORTY, Script.times(39, "undo()"), "of(0, 0) = 1", "undo() = 0",
            "of(0, 0) = 0", "undo() ! STATE");
        run("33: all 40 done again", FORTY, Script.times(40, "undo()"), "count(4) = 0", Script.times(39, "redo()"),
            "of(0, 0) = 39", "redo() = 0", "of(0, 0) = 40", "redo() ! STATE");
        run("33: refused ones and like ones make none forgotten", FORTY, "mend(0, 0, 64) ! BAD", "mend(0, 0, 40) ! 40",
            "mend(0, 3, 7) ! BAD", "mend(1, 0, 1) ! BAD");
        run("33: one undone makes room", FORTY, "undo() = 39", "mend(0, 0, 63)", "count(4) = 40",
            Script.times(39, "undo()"), "of(0, 0) = 1", "undo() = 0", "of(0, 0) = 0");
        run("33: whose the forgotten one was", "person(0, 0)", "person(0, 0)", "mend(1, 0, 9)",
            Script.each(1, 40, "mend(0, 0, #)"), Script.times(40, "undo()"), "undo() ! STATE", "of(1, 0) = 9",
            "of(0, 0) = 0");
        run("33: 100 changes", "person(0, 0)", Script.each(1, 50, "mend(0, 0, #)"), Script.each(1, 50, "mend(0, 1, #)"),
            "count(4) = 40", Script.times(40, "undo()"), "of(0, 1) = 10", "of(0, 0) = 50", "undo() = STATE");
    }

    private static void redoAsLongAsNoOther() {
        run("34: another came behind", "person(1, 1)", "mend(0, 0, 2)", "mend(0, 0, 3)", "undo() = 1", "undo() = 0",
            "mend(0, 3, 1)", "redo() ! STATE", "count(4) = 1", "undo() = 0", "of(0, 10) = 0", "of(0, 0) = 1",
            "redo() = 0", "of(0, 10) = 1", "redo() ! STATE");
        run("34: the like one came behind", "person(1, 1)", "mend(0, 0, 2)", "undo() = 0", "mend(0, 0, 2) = 1",
            "redo() ! STATE", "undo() = 0");
        run("34: a refused one is none", "person(1, 1)", "mend(0, 0, 2)", "undo() = 0", "mend(0, 0, 64) ! BAD",
            "mend(1, 0, 0) ! BAD", "mend(0, 5, 0) ! BAD", "redo() = 0");
        run("34: the same number is none", "person(1, 1)", "mend(0, 0, 2)", "undo() = 0", "mend(0, 0, 1) ! 1",
            "mend(0, 3, 0) ! 0", "redo() = 0");
        run("34: behind one done again", "mend(0, 3, 1)", "mend(0, 3, 2)", "mend(0, 3, 3)", "undo()", "undo()",
            "redo() = 1", "mend(0, 3, 5) = 2", "redo() ! STATE", "undo() = 2", "of(0, 10) = 2");
        inRich("34: two may be done again", "redo() = 1", "of(2, 1) = 8", "redo() = 0", "of(2, 0) = 20",
            "redo() ! STATE", "undo() = 5");
        inRich("33: four may be undone", "undo() = 3", "of(0, 11) = 0", "undo() = 2", "of(0, 10) = 0", "undo() = 1",
            "of(1, 0) = 7", "undo() = 0", "of(0, 2) = 0", "undo() ! STATE", "redo() = 5");
    }

    private static void whatIsNoChange() {
        inRich("34: none of these is another change", "person(1, 1)", "errand(0, 31)", "clear(1)", "hat(0, -1)",
            "say '1'", "plan()", "go(0, 5, 1)", "sight(0, 1)", "turn()", "image()", "back()", "body(1)", "act(0, 0, 1)",
            "keep(5, 0)", "row(5, 0, 2)", "people(5, 0, 1) = 1", "count(4) = 4", "redo() = 1", "redo() = 0",
            "count(4) = 6");
    }
}
