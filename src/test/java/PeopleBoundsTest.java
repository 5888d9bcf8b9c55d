import java.util.List;

/** Promises 1 to 8 at their edges: a run for each, refused calls in a state that has something of every sort. */
public final class PeopleBoundsTest {
    private static final Due due = new Due("PeopleBoundsTest");
    private static final List<String> SEVEN = Script.each(0, 6, "person(#, 7) = #");

    public static void main(String[] args) {
        newObject();
        newObjectIsItsOwn();
        person();
        peopleRefused();
        peopleFrom();
        peopleWhoAreNotSo();
        peopleUntilFull();
        errand();
        clear();
        hat();
        mendPeople();
        mendEaseAndMonth();
        mendTheSame();
        ofPerson();
        ofRefused();
        due.close();
    }

    private static void run(String name, Object... told) {
        Script.run(due, name, told);
    }

    private static void inRich(String name, Object... told) {
        Script.run(due, name, Script.RICH, Script.all(told));
    }

    private static void newObject() {
        run("1: nobody", Script.each(0, 6, "count(#) ! 0"), Script.each(0, 6, "of(0, #) ! VOID"), "clear(0) ! BAD",
            "errand(0, 11) ! BAD", "hat(0, -1) ! VOID", Script.each(0, 2, "mend(0, #, 1) ! BAD"), "alike(1) ! BAD",
            "where(0, 0) ! VOID", "waited(0, 0) ! BAD", "bars(0) ! BAD", "led(0, 0) ! BAD", "hats(0) ! VOID",
            "pass(1) ! VOID", "go(0, 0, 0) ! BAD", "watch(1, 0) ! BAD", "best(0) ! BAD");
        run("1: nobody, and what all together is", "plan() ! 0", "best(-1) ! 0", "hats(-1) ! 0", "needs() ! 0",
            "kinds(0) ! 0", "kinds(1) ! 0", Script.each(0, 2, "judge(#) ! NOT"), "gone(0, 0) ! 0", "gone(29, 1) ! 0",
            Script.each(1, 12, "months(#) ! 0"));
        run("1: no ease, January", "of(0, 10) ! 0", "of(0, 11) ! 0");
        run("1: no sights", Script.each(20, 22, "of(0, #) ! VOID"), "who(0) ! BAD",
            Script.each(0, 6, "atLeast(#) ! 0"));
        run("1: no image, no changes", "back() ! STATE", "undo() ! STATE", "redo() ! STATE");
        run("1: an empty tape", "law() ! -100", "count(3) ! 0");
        run("1: no text", "person(0, 0) = 0", "person(0, 0) = 1", "person(1, 0) = 2", "alike(1) ! 1", "alike(2) ! 0");
        run("1: no twins, no trace", "trace(0) ! BAD", "act(0, 0, 5) ! 0", "keep(0, 0) ! BAD");
        run("1: shelves hold nothing", Script.each(0, 5, "element(#, 0) ! LEAST"),
            Script.each(0, 5, "put(#, 0, 1) ! -11"), Script.each(0, 5, "taken(#, 0) ! -11"),
            Script.each(0, 5, "people(#, 0, 7) ! 0"), Script.each(0, 5, "keep(#, -1) ! 1"),
            Script.each(0, 5, "shift(#, 0, 0, 0, 0) ! -11"));
    }

    private static void newObjectIsItsOwn() {
        TwoAlike one = new TwoAlike();
        TwoAlike other = new TwoAlike();
        due.is("1: own people", one.person(9, 9), 0);
        due.is("1: own law", Due.lawOf(one, "1"), 1);
        one.row(0, 0, 3);
        one.body(2);
        one.mend(0, 3, 4);
        one.sight(0, 0);
        one.image();
        for (int what = 0; what < 7; what++) due.is("1: count " + what + " of another object", other.count(what), 0);
        due.is("1: own ease", other.of(0, 10), 0);
        due.is("1: own shelves", other.put(0, 0, 1), -11);
        due.is("1: own image", other.back(), -5);
        other.person(0, 0);
        other.person(63, 0);
        due.is("1: own law", other.alike(1), 0);
        due.is("1: own looks", one.of(0, 0), 9);
    }

    private static void person() {
        run("2: the least looks", "person(0, 5) = 0", "of(0, 0) ! 0");
        inRich("2: looks too small", "person(-1, 5) ! BAD", "person(MIN, 5) ! BAD");
        run("2: the greatest looks", "person(63, 5) = 0", "of(0, 0) ! 63");
        inRich("2: looks too great", "person(64, 5) ! BAD", "person(MAX, 5) ! BAD", "person(127, 5) ! BAD");
        run("2: may change nothing", "person(5, 0) = 0", "of(0, 1) ! 0");
        inRich("2: may change too small", "person(5, -1) ! BAD", "person(5, MIN) ! BAD");
        run("2: may change everything", "person(5, 63) = 0", "of(0, 1) ! 63");
        inRich("2: may change too great", "person(5, 64) ! BAD", "person(5, MAX) ! BAD", "person(64, 64) ! BAD");
        run("2: the seventh comes, the eighth not", Script.each(0, 5, "person(#, #) = #"), "person(63, 63) = 6",
            "person(0, 0) ! FULL", "person(63, 63) ! FULL", "count(0) = 7", "of(6, 0) = 63");
        run("2: BAD ahead of FULL", SEVEN, "person(64, 0) ! BAD", "person(0, -1) ! BAD", "person(0, 0) ! FULL");
        run("2: a refused one takes no number", "person(64, 0) ! BAD", "person(1, 2) = 0", "person(1, 64) ! BAD",
            "person(3, 4) = 1");
        run("2: none at first", "person(5, 3) = 0", "of(0, 2) = 0", "of(0, 3) = -1", "of(0, 4) = 5", "of(0, 5) = 0",
            "of(0, 6) = 0");
        run("2: at home at first", "person(5, 3) = 0", "person(5, 3) = 1", "go(1, 29, 0) = 30", "watch(1, 0) = NOT",
            "watch(1, 1) = 30");
        run("2: is no change", "person(5, 3) = 0", "undo() ! STATE", "mend(0, 0, 1) = 5", "undo() = 0",
            "person(1, 1) = 1", "redo() = 0");
    }

    private static void peopleRefused() {
        inRich("3: shelf", "people(-1, 0, 1) ! BAD", "people(6, 0, 1) ! BAD", "people(MIN, 0, 1) ! BAD",
            "people(MAX, 0, 1) ! BAD");
        run("3: the first and the last shelf", "row(0, 0, 2) = 1", "people(0, 0, 1) = 1", "row(5, 0, 2) = 1",
            "people(5, 0, 1) = 1");
        inRich("3: n", "people(0, 0, 0) ! BAD", "people(0, 0, -1) ! BAD", "people(0, 0, 8) ! BAD",
            "people(0, 0, MIN) ! BAD", "people(0, 0, MAX) ! BAD");
        run("3: the least and the greatest n", "row(0, 0, 14) = 1", "people(0, 0, 1) = 1", "people(0, 0, 7) = 6");
        inRich("3: no bytes", "people(1, 0, 1) ! -12", "people(4, 0, 1) ! -12", "people(2, 0, 1) ! -12");
        for (int sort = 1; sort <= 4; sort++) {
            run("3: a row of sort " + sort, "row(2, " + sort + ", 4) = 1", "people(2, 0, 1) ! -12",
                "people(2, 4, 1) ! -12", "people(2, -1, 1) ! -12", "people(2, 0, 0) ! BAD",
                "row(2, " + sort + ", 0) = 1", "people(2, 0, 7) ! -12");
        }
        inRich("3: BAD ahead of -12", "people(1, 0, 0) ! BAD", "people(2, 0, 8) ! BAD", "people(4, -1, 0) ! BAD");
        inRich("3: BAD ahead of nothing there", "people(5, 0, 0) ! BAD", "people(5, 0, 8) ! BAD");
        inRich("3: nothing there", "people(5, 0, 1) ! 0", "people(5, 0, 7) ! 0", "people(5, -1, 1) ! 0",
            "people(5, MAX, 1) ! 0", "people(5, MIN, 1) ! 0");
    }

    private static void peopleFrom() {
        List<String> row = Script.all("row(0, 0, 5) = 1", Script.each(0, 4, "put(0, #, 1#) = 1"));
        run("3: a row of none", "row(0, 0, 0) = 1", "people(0, 0, 1) ! 0", "people(0, 0, 7) ! 0",
            "people(0, -1, 1) ! 0", "people(0, 1, 1) ! 0");
        run("3: a row of one ends within a two", "row(0, 0, 1) = 1", "people(0, 0, 1) ! 0");
        run("3: a row of two", "row(0, 0, 2) = 1", "put(0, 1, 9) = 1", "people(0, 0, 1) = 1", "of(0, 0) = 0",
            "of(0, 1) = 9");
        run("3: ends within the third two", row, "people(0, 0, 3) = 2", "count(0) = 2", "of(0, 0) = 10",
            "of(0, 1) = 11", "of(1, 0) = 12", "of(1, 1) = 13");
        run("3: n of them", row, "people(0, 0, 1) = 1", "count(0) = 1", "people(0, 0, 2) = 2", "count(0) = 3");
        run("3: the last two", row, "people(0, 3, 7) = 1", "of(0, 0) = 13", "of(0, 1) = 14");
        run("3: the last place", row, "people(0, 4, 1) ! 0");
        run("3: behind the last place", row, "people(0, 5, 1) ! 0", "people(0, 6, 1) ! 0", "people(0, MAX, 1) ! 0",
            "people(0, MAX, 7) ! 0");
        run("3: ahead of the first place", row, "people(0, -1, 1) ! 0", "people(0, -1, 7) ! 0", "people(0, -2, 7) ! 0",
            "people(0, MIN, 7) ! 0");
        run("3: the longest row", "row(0, 0, 60) = 1", "put(0, 58, 7) = 1", "put(0, 59, 8) = 1", "people(0, 58, 7) = 1",
            "of(0, 0) = 7", "of(0, 1) = 8", "people(0, 59, 1) ! 0", "people(0, 60, 1) ! 0");
        run("3: the row stays", row, "people(0, 0, 2) = 2", Script.each(0, 4, "element(0, #) = 1#"));
    }

    private static void peopleWhoAreNotSo() {
        run("3: the greatest of both", "row(0, 0, 2) = 1", "put(0, 0, 63) = 1", "put(0, 1, 63) = 1",
            "people(0, 0, 1) = 1", "of(0, 0) = 63", "of(0, 1) = 63");
        run("3: looks too great", "row(0, 0, 2) = 1", "put(0, 0, 64) = 1", "people(0, 0, 1) ! 0");
        run("3: may change too great", "row(0, 0, 2) = 1", "put(0, 1, 64) = 1", "people(0, 0, 1) ! 0");
        run("3: looks too small", "row(0, 0, 2) = 1", "put(0, 0, -1) = 1", "people(0, 0, 1) ! 0");
        run("3: may change too small", "row(0, 0, 2) = 1", "put(0, 1, -1) = 1", "people(0, 0, 1) ! 0");
        run("3: a byte wraps", "row(0, 0, 2) = 1", "put(0, 0, 256) = 1", "put(0, 1, 319) = 1", "people(0, 0, 1) = 1",
            "of(0, 0) = 0", "of(0, 1) = 63");
        run("3: those ahead came, those behind not", "row(0, 0, 6) = 1", Script.each(0, 5, "put(0, #, #) = 1"),
            "put(0, 3, 64) = 1", "people(0, 0, 3) = 1", "count(0) = 1", "of(0, 1) = 1", "people(0, 4, 1) = 1",
            "of(1, 0) = 4");
    }

    private static void peopleUntilFull() {
        run("3: all seven", "row(0, 0, 14) = 1", Script.each(0, 13, "put(0, #, #) = 1"), "people(0, 0, 7) = 7",
            "of(6, 0) = 12", "of(6, 1) = 13");
        run("3: one more has room", Script.each(0, 5, "person(#, #) = #"), "row(0, 0, 6) = 1", "put(0, 0, 9) = 1",
            "people(0, 0, 3) = 1", "count(0) = 7", "of(6, 0) = 9");
        run("3: full", SEVEN, "row(0, 0, 4) = 1", "people(0, 0, 1) ! 0", "people(0, 0, 7) ! 0");
        run("3: BAD and -12 though full", SEVEN, "row(0, 1, 4) = 1", "people(0, 0, 1) ! -12", "people(0, 0, 0) ! BAD");
    }

    private static void errand() {
        inRich("4: person", "errand(-1, 11) ! BAD", "errand(3, 11) ! BAD", "errand(7, 11) ! BAD",
            "errand(MIN, 11) ! BAD", "errand(MAX, 11) ! BAD");
        run("4: the first and the last person", SEVEN, "errand(0, 11) = 1", "errand(6, 11) = 1");
        inRich("4: minutes too few", Script.each(0, 4, "errand(0, #0) ! BAD"));
        run("4: the least minutes", "person(0, 0) = 0", Script.each(0, 3, "errand(0, #1)"), "of(0, 6) = 4");
        inRich("4: minutes too many", Script.each(0, 4, "errand(0, #7) ! BAD"), "errand(0, 9) ! BAD",
            "errand(0, 49) ! BAD");
        run("4: the most minutes", "person(0, 0) = 0", Script.each(1, 4, "errand(0, #6) = #"), "of(0, 6) = 24");
        run("4: the first street", "person(0, 0) = 0", "errand(0, 1) = 1", "where(0, 0) = 0");
        inRich("4: street too small", "errand(0, -1) ! BAD", "errand(0, -6) ! BAD", "errand(0, -9) ! BAD",
            "errand(0, -10) ! BAD", "errand(0, -14) ! BAD", "errand(0, MIN) ! BAD");
        run("4: the last street", "person(0, 0) = 0", "errand(0, 41) = 1", "where(0, 0) = 4");
        inRich("4: street too great", "errand(0, 51) ! BAD", "errand(0, 56) ! BAD", "errand(0, 101) ! BAD",
            "errand(0, MAX) ! BAD");
        run("4: the fourth comes, the fifth not", "person(0, 0) = 0", "person(0, 0) = 1",
            Script.each(1, 4, "errand(0, 1#) = #"), "errand(0, 11) ! FULL", "errand(0, 46) ! FULL",
            "errand(1, 11) = 1");
        run("4: BAD ahead of FULL", "person(0, 0) = 0", Script.each(1, 4, "errand(0, 1#) = #"), "errand(0, 10) ! BAD",
            "errand(0, 51) ! BAD", "errand(0, -1) ! BAD", "errand(1, 11) ! BAD");
        run("4: a refused one takes no place", "person(0, 0) = 0", "errand(0, 10) ! BAD", "errand(0, 13) = 1",
            "errand(0, 17) ! BAD", "errand(0, 22) = 2");
    }

    private static void clear() {
        inRich("5: person", "clear(-1) ! BAD", "clear(3) ! BAD", "clear(7) ! BAD", "clear(MIN) ! BAD",
            "clear(MAX) ! BAD");
        run("5: none", "person(0, 0) = 0", "clear(0) ! 0");
        run("5: the last person", SEVEN, "errand(6, 11) = 1", "clear(6) = 1", "clear(7) ! BAD");
        run("5: four, and room again", "person(0, 0) = 0", Script.each(1, 4, "errand(0, 1#) = #"), "clear(0) = 4",
            "clear(0) ! 0", Script.each(1, 4, "errand(0, 2#) = #"), "errand(0, 1) ! FULL", "where(0, 0) = 2",
            "of(0, 6) = 10");
        run("5: of that one alone", "person(0, 0) = 0", "person(1, 0) = 1", "person(2, 0) = 2",
            Script.each(0, 2, "errand(#, 3#)"), "errand(1, 2) = 2", "clear(1) = 2", "of(0, 5) = 0", "of(2, 5) = 1",
            "count(1) = 1");
    }

    private static void hat() {
        inRich("6: person", "hat(-1, -1) ! VOID", "hat(3, -1) ! VOID", "hat(7, 0) ! VOID", "hat(MIN, -1) ! VOID",
            "hat(MAX, -1) ! VOID");
        inRich("6: part", "hat(1, -2) ! VOID", "hat(1, 6) ! VOID", "hat(1, 31) ! VOID", "hat(1, 32) ! VOID",
            "hat(1, 36) ! VOID", "hat(1, MIN) ! VOID", "hat(1, MAX) ! VOID");
        inRich("6: not of may change", Script.each(2, 5, "hat(0, #) ! VOID"), Script.each(0, 5, "hat(2, #) ! VOID"));
        run("6: the first part", "person(0, 1) = 0", "hat(0, 0) = -1", "of(0, 4) = 1");
        run("6: the last part", "person(63, 32) = 0", "hat(0, 5) = -1", "of(0, 4) = 31");
        run("6: each part in turn, and what it was", "person(0, 63) = 0", "hat(0, 0) = -1", "hat(0, 1) = 0",
            "hat(0, 2) = 1", "hat(0, 3) = 2", "hat(0, 4) = 3", "hat(0, 5) = 4", "hat(0, -1) = 5", "hat(0, -1) ! -1");
        run("6: none where none may be", "person(5, 0) = 0", "hat(0, -1) ! -1");
        run("6: the same one", "person(5, 4) = 0", "hat(0, 2) = -1", "hat(0, 2) ! 2");
        run("6: worn, but no longer of may change", "person(5, 4) = 0", "hat(0, 2) = -1", "mend(0, 1, 3) = 4",
            "of(0, 3) = 2", "of(0, 4) = 1", "hat(0, 2) ! VOID", "hat(0, -1) = 2", "hat(0, 2) ! VOID");
        run("6: is no change", "person(5, 4) = 0", "mend(0, 0, 6) = 5", "undo() = 0", "hat(0, 2) = -1", "redo() = 0",
            "count(4) = 1");
    }

    private static void mendPeople() {
        for (int what = 0; what < 3; what++) {
            String of = ", " + what + ", ";
            inRich("7: person, what " + what, "mend(-1" + of + "1) ! BAD", "mend(3" + of + "1) ! BAD",
                "mend(7" + of + "0) ! BAD", "mend(MIN" + of + "1) ! BAD", "mend(MAX" + of + "1) ! BAD");
            inRich("7: v too small, what " + what, "mend(0" + of + "-1) ! BAD", "mend(0" + of + "MIN) ! BAD");
            inRich("7: v too great, what " + what, "mend(0" + of + "64) ! BAD", "mend(0" + of + "MAX) ! BAD",
                "mend(0" + of + "127) ! BAD");
            run("7: the least and the greatest v, what " + what, "person(5, 5) = 0", "mend(0, 2, 5) = 0",
                "mend(0" + of + "63) = 5", "of(0, " + what + ") = 63", "mend(0" + of + "0) = 63",
                "of(0, " + what + ") = 0");
            run("7: the last person, what " + what, SEVEN, "mend(6" + of + "9)", "of(6, " + what + ") = 9",
                "mend(7" + of + "9) ! BAD");
        }
        inRich("7: what", "mend(0, -1, 1) ! BAD", "mend(0, 5, 1) ! BAD", "mend(0, 10, 1) ! BAD", "mend(0, 11, 1) ! BAD",
            "mend(0, MIN, 1) ! BAD", "mend(0, MAX, 1) ! BAD");
        run("7: the hat stays, and what it turns", "person(5, 2) = 0", "hat(0, 1) = -1", "mend(0, 0, 0) = 5",
            "of(0, 4) = 2", "mend(0, 1, 0) = 2", "of(0, 3) = 1", "of(0, 4) = 2");
    }

    private static void mendEaseAndMonth() {
        inRich("7: number of ease", "mend(-1, 3, 2) ! BAD", "mend(1, 3, 2) ! BAD", "mend(2, 3, 2) ! BAD",
            "mend(MAX, 3, 2) ! BAD", "mend(MIN, 3, 2) ! BAD");
        inRich("7: number of month", "mend(-1, 4, 2) ! BAD", "mend(1, 4, 2) ! BAD", "mend(2, 4, 2) ! BAD",
            "mend(MAX, 4, 2) ! BAD", "mend(MIN, 4, 2) ! BAD");
        inRich("7: ease too small, too great", "mend(0, 3, -1) ! BAD", "mend(0, 3, 7) ! BAD", "mend(0, 3, MIN) ! BAD",
            "mend(0, 3, MAX) ! BAD");
        run("7: the least and the greatest ease, of nobody", "mend(0, 3, 6) = 0", "of(0, 10) = 6", "mend(0, 3, 0) = 6",
            "of(0, 10) = 0");
        inRich("7: month too small, too great", "mend(0, 4, -1) ! BAD", "mend(0, 4, 12) ! BAD", "mend(0, 4, MIN) ! BAD",
            "mend(0, 4, MAX) ! BAD");
        run("7: the least and the greatest month, of nobody", "mend(0, 4, 11) = 0", "of(0, 11) = 11",
            "mend(0, 4, 0) = 11", "of(0, 11) = 0");
    }

    private static void mendTheSame() {
        run("7: the same number is no change", "person(5, 3) = 0", "mend(0, 0, 5) ! 5", "mend(0, 1, 3) ! 3",
            "mend(0, 2, 0) ! 0", "mend(0, 3, 0) ! 0", "mend(0, 4, 0) ! 0", "undo() ! STATE");
        inRich("7: the same number, with some undone", "mend(2, 0, 21) ! 21", "mend(0, 1, 3) ! 3", "mend(1, 2, 0) ! 0",
            "mend(0, 3, 1) ! 1", "mend(0, 4, 10) ! 10", "redo() = 1");
        inRich("7: another number, with some undone", "mend(2, 0, 22) = 21", "redo() ! STATE", "count(4) = 5");
    }

    private static void ofPerson() {
        run("8: all least", "person(0, 0) = 0", "of(0, 0) ! 0", "of(0, 1) ! 0", "of(0, 2) ! 0", "of(0, 3) ! -1",
            "of(0, 4) ! 0", "of(0, 5) ! 0", "of(0, 6) ! 0");
        run("8: all greatest", "person(63, 63) = 0", "mend(0, 2, 63) = 0", "hat(0, 5) = -1",
            Script.each(1, 4, "errand(0, 46) = #"), "of(0, 0) ! 63", "of(0, 1) ! 63", "of(0, 2) ! 63", "of(0, 3) ! 5",
            "of(0, 4) ! 31", "of(0, 5) ! 4", "of(0, 6) ! 24");
        run("8: the last person", SEVEN, "of(6, 0) ! 6", "of(6, 1) ! 7", "of(7, 0) ! VOID");
        run("8: the last sight", Script.each(0, 9, "sight(#4, #) = #"), "of(9, 20) ! 9", "of(9, 21) ! 4",
            "of(9, 22) ! 9", "of(10, 20) ! VOID");
        run("8: a sight all least and all greatest", "sight(0, 0) = 0", "sight(294, 63) = 1", "of(0, 20) ! 0",
            "of(0, 21) ! 0", "of(0, 22) ! 0", "of(1, 20) ! 29", "of(1, 21) ! 4", "of(1, 22) ! 63");
        run("8: ease and month all least, all greatest", "of(0, 10) ! 0", "of(0, 11) ! 0", "mend(0, 3, 6) = 0",
            "mend(0, 4, 11) = 0", "of(0, 10) ! 6", "of(0, 11) ! 11");
    }

    private static void ofRefused() {
        inRich("8: person", Script.each(0, 6, "of(-1, #) ! VOID"), Script.each(0, 6, "of(3, #) ! VOID"),
            "of(MIN, 0) ! VOID", "of(MAX, 0) ! VOID");
        inRich("8: number of ease and month", "of(-1, 10) ! VOID", "of(1, 10) ! VOID", "of(-1, 11) ! VOID",
            "of(1, 11) ! VOID", "of(2, 11) ! VOID");
        inRich("8: sight", Script.each(20, 22, "of(-1, #) ! VOID"), Script.each(20, 22, "of(3, #) ! VOID"),
            "of(9, 20) ! VOID", "of(10, 20) ! VOID");
        inRich("8: what", "of(0, -1) ! VOID", "of(0, 7) ! VOID", "of(0, 9) ! VOID", "of(0, 12) ! VOID",
            "of(0, 19) ! VOID", "of(0, 23) ! VOID", "of(0, MIN) ! VOID", "of(0, MAX) ! VOID");
    }
}
