import java.util.List;

/** Promises 12 to 17 and a day's terms at their edges. */
public final class DaysBoundsTest {
    private static final Due due = new Due("DaysBoundsTest");
    private static final List<String> SEVEN = alikes(7);

    public static void main(String[] args) {
        plan();
        lastMinute();
        gaps();
        whoIsInTheWay();
        waitedOfOne();
        where();
        waited();
        best();
        bestOfLikeOnes();
        bars();
        barsNobody();
        barsWhoIsBarred();
        barsWhoWouldBeBarred();
        led();
        ledAsItWasTold();
        asksChangeNothing();
        due.close();
    }

    private static void run(String name, Object... told) {
        Script.run(due, name, told);
    }

    private static void inRich(String name, Object... told) {
        Script.run(due, name, Script.RICH, Script.all(told));
    }

    private static List<String> alikes(int n) {
        return Script.each(0, n - 1, "person(0, 0) = #");
    }

    private static List<String> errands(int person, int... sms) {
        List<String> lines = Script.all();
        for (int sm : sms) lines.add("errand(" + person + ", " + sm + ")");
        return lines;
    }

    /** Where somebody is from minute 0 on: a street, or - at home. */
    private static List<String> day(int person, String streets) {
        List<String> lines = Script.all();
        for (int minute = 0; minute < streets.length(); minute++) {
            char c = streets.charAt(minute);
            lines.add("where(" + person + ", " + minute + ") = " + (c == '-' ? "-1" : "" + c));
        }
        return lines;
    }

    private static void plan() {
        run("12: nobody", "plan() ! 0");
        run("12: no errands", SEVEN, "plan() = 0", day(6, "-"), Script.each(0, 6, "led(#, 0) = NOT"));
        run("12: one alone waits for nobody", alikes(1), errands(0, 6, 6, 6, 6), "plan() = 0",
            day(0, "000000000000000000000000------"));
        run("12: one minute each", SEVEN, Script.each(0, 6, "errand(#, 1) = 1"), "plan() = 21", "led(6, 0) = 6",
            "led(6, 1) = 6");
        run("12: all are barred but the first", SEVEN, Script.times(4, "errand(0, 6)"),
            Script.each(1, 6, "errand(#, 6)"), Script.each(1, 6, "errand(#, 1)"), "plan() = 180", "waited(0, 1) = 0",
            "waited(1, 1) = 1", "waited(6, 1) = 1");
        run("12: one in its turn after another", alikes(3), errands(0, 2), errands(1, 2), errands(2, 2), "plan() = 6",
            day(0, "00----"), day(1, "--00--"), day(2, "----00"));
    }

    private static void lastMinute() {
        run("2: ends in minute 29", alikes(2), errands(0, 6, 6, 6, 6), errands(1, 6), "plan() = 24",
            "waited(1, 0) = 24", "waited(1, 1) = 0", "where(1, 23) = -1", "where(1, 24) = 0", "where(1, 29) = 0",
            "led(1, 0) = 24", "led(1, 1) = 29");
        run("2: would end in minute 30", alikes(2), errands(0, 6, 6, 6, 6), errands(1, 6, 11), "plan() = 30",
            "waited(1, 0) = 0", "waited(1, 1) = 1", Script.each(0, 29, "where(1, #) = -1"), "led(1, 0) = NOT",
            "led(1, 1) = NOT");
        run("2: a later errand ends in minute 29", alikes(2), errands(0, 6, 6, 6, 6), errands(1, 1, 15), "plan() = 24",
            "where(1, 24) = 0", "where(1, 29) = 1");
        run("2: a later errand would end in minute 30", alikes(2), errands(0, 6, 6, 6, 6), errands(1, 1, 16),
            "plan() = 30", "where(1, 24) = -1", "where(1, 29) = -1");
        run("2: barred, though its first errand could be done", alikes(2), errands(0, 6, 6, 6, 6),
            errands(1, 12, 6, 21), "plan() = 30", "where(1, 0) = -1", "where(1, 1) = -1", "where(1, 29) = -1");
        run("2: one minute less", alikes(2), errands(0, 6, 6, 6, 6), errands(1, 12, 5, 21), "plan() = 22",
            day(1, "11----------------------000002"));
        run("2: the most errands and the longest wait", alikes(2), errands(0, 6), errands(1, 6, 16, 26, 36),
            "plan() = 6", "led(1, 1) = 29", "waited(1, 0) = 6");
        run("2: the most errands and one minute too long a wait", alikes(2), errands(0, 11, 6),
            errands(1, 6, 16, 26, 36), "plan() = 30", "waited(1, 1) = 1");
    }

    private static void gaps() {
        run("2: a gap that is just long enough", alikes(2), errands(0, 12, 23, 12), errands(1, 13), "plan() = 2",
            day(1, "--111---"));
        run("2: a gap that is one minute too short", alikes(2), errands(0, 12, 23, 12), errands(1, 14), "plan() = 7",
            day(1, "-------1111-"));
        run("2: minute 0 alone is free", alikes(2), errands(0, 21, 12), errands(1, 11), "plan() = 0", day(1, "1--"));
        run("2: minute 0 alone is free, for two minutes", alikes(2), errands(0, 21, 12), errands(1, 12), "plan() = 3",
            day(1, "---11-"));
        run("2: waits between its errands", alikes(2), errands(0, 24, 12), errands(1, 13, 11, 12), "plan() = 2",
            day(1, "1111--11----------------------"));
        run("2: waits minute by minute", alikes(2), errands(0, 12, 22, 13), errands(1, 21, 12, 21), "plan() = 1",
            day(0, "1122111-"), day(1, "2-112---"));
    }

    private static void whoIsInTheWay() {
        run("2: not in another street", alikes(2), errands(0, 6), errands(1, 16), "plan() = 0");
        run("2: not one who is not alike", "person(0, 0)", "person(1, 0)", errands(0, 6), errands(1, 6), "plan() = 0",
            "where(0, 0) = 0", "where(1, 0) = 0");
        run("2: one who is just alike", "person(0, 0)", "person(1, 0)", "mend(0, 3, 1)", errands(0, 6), errands(1, 6),
            "plan() = 6");
        run("2: not one whose turn comes behind", alikes(2), errands(1, 6), errands(0, 16, 6), "plan() = 0",
            day(0, "111111000000"), day(1, "000000"));
        run("2: not one who is barred", alikes(3), errands(0, 6, 6, 6, 6), errands(1, 13, 6, 6), errands(2, 12),
            "plan() = 30", "waited(1, 1) = 1", day(2, "11"));
        run("2: not oneself", alikes(1), errands(0, 11, 11, 11, 11), "plan() = 0", day(0, "1111-"));
        run("2: each of those ahead", "person(1, 0)", "person(2, 0)", "person(0, 0)", "mend(0, 3, 1)", errands(0, 2),
            errands(1, 21, 3), errands(2, 1), "plan() = 4", day(2, "----0"));
        run("2: as they are seen", "person(0, 1)", "person(1, 0)", errands(0, 6), errands(1, 6), "plan() = 0",
            "hat(0, 0)", "plan() = 6", "hat(0, -1)", "plan() = 0");
        run("2: by the law as it is now", "person(0, 1)", "person(1, 0)", errands(0, 6), errands(1, 6), "say 'm=1'",
            "plan() = 0", "turn() = 1", "plan() = 6");
    }

    private static void waitedOfOne() {
        run("2: 0 without errands", alikes(2), errands(0, 6), "waited(1, 0) = 0", "waited(1, 1) = 0");
        run("2: 0 of one who is barred", alikes(2), errands(0, 6, 6, 6, 6), errands(1, 6, 6), "waited(1, 0) = 0",
            "waited(1, 1) = 1");
        run("2: not what is left of the day", alikes(2), errands(0, 1), errands(1, 1, 11), "waited(1, 0) = 1");
        run("2: ahead of the first errand and between two", alikes(2), errands(0, 11, 24), errands(1, 11, 21),
            "waited(1, 0) = 4", "plan() = 4", day(1, "-1---2"));
        run("2: 29 at most", SEVEN, errands(0, 6, 6, 6, 6), errands(1, 5), errands(2, 1), "waited(2, 0) = 29",
            "waited(2, 1) = 0", errands(3, 1), "waited(3, 0) = 0", "waited(3, 1) = 1", "plan() = 83");
    }

    private static void where() {
        inRich("13: person", "where(-1, 0) ! VOID", "where(3, 0) ! VOID", "where(7, 0) ! VOID", "where(MIN, 0) ! VOID",
            "where(MAX, 0) ! VOID");
        inRich("13: minute", "where(0, -1) ! VOID", "where(0, 30) ! VOID", "where(0, 31) ! VOID", "where(0, 32) ! VOID",
            "where(0, MIN) ! VOID", "where(0, MAX) ! VOID");
        run("13: the first and the last minute", alikes(2), errands(0, 46, 46, 46, 46), errands(1, 46),
            "where(0, 0) ! 4", "where(1, 29) ! 4", "where(0, 29) ! -1");
        run("13: the last person", SEVEN, errands(6, 1), "where(6, 0) ! 0", "where(6, 1) ! -1", "where(7, 0) ! VOID");
        run("13: as it would be now", alikes(1), errands(0, 1), "plan() = 0", "clear(0)", "where(0, 0) ! -1",
            errands(0, 41), "where(0, 0) ! 4");
    }

    private static void waited() {
        inRich("14: person", "waited(-1, 0) ! BAD", "waited(3, 0) ! BAD", "waited(3, 1) ! BAD", "waited(7, 0) ! BAD",
            "waited(MIN, 0) ! BAD", "waited(MAX, 1) ! BAD");
        inRich("14: what", "waited(0, -1) ! BAD", "waited(0, 2) ! BAD", "waited(0, MIN) ! BAD", "waited(0, MAX) ! BAD");
        run("14: the last person", SEVEN, Script.each(0, 6, "errand(#, 1)"), "waited(6, 0) ! 6", "waited(6, 1) ! 0");
        run("14: as it would be now", alikes(2), errands(0, 6), errands(1, 6), "plan() = 6", "clear(0)",
            "waited(1, 0) ! 0");
    }

    private static void best() {
        inRich("15: k", "best(-2) ! BAD", "best(3) ! BAD", "best(7) ! BAD", "best(MIN) ! BAD", "best(MAX) ! BAD");
        run("15: nobody", "best(-1) ! 0", "best(0) ! BAD");
        run("15: one alone", alikes(1), "best(-1) ! 0", "best(0) ! 0", "best(1) ! BAD");
        run("15: the last of seven", SEVEN, Script.each(0, 6, "best(#) = #"), "best(7) ! BAD");
        run("15: the last one first", alikes(2), errands(0, 6), errands(1, 5), "plan() = 6", "best(-1) ! 5",
            "best(0) ! 1", "best(1) ! 0");
        run("15: 30 for one who is barred", alikes(2), errands(0, 6, 6, 6), errands(1, 6, 6, 6), "best(-1) ! 30",
            "best(0) ! 0");
        run("15: a long wait is less than 30", alikes(3), errands(0, 6, 6, 6, 6), errands(1, 3), errands(2, 3),
            "plan() = 51", "best(-1) = 9", "best(0) = 1", "best(1) = 2", "best(2) = 0");
        run("15: who would be barred goes first", alikes(2), errands(0, 11, 6), errands(1, 6, 16, 26, 36),
            "plan() = 30", "best(-1) = 5", "best(0) = 1");
        run("15: the plan by numbers stays", alikes(2), errands(0, 6), errands(1, 5), "best(-1) = 5",
            "waited(1, 0) = 6", "plan() = 6");
    }

    private static void bestOfLikeOnes() {
        run("15: of like ones the first by numbers", alikes(3), errands(0, 2), errands(1, 2), errands(2, 2),
            "best(-1) = 6", Script.each(0, 2, "best(#) = #"));
        run("15: one by one", alikes(3), errands(0, 3), errands(1, 2), errands(2, 2), "best(-1) = 6", "best(0) = 1",
            "best(1) = 2", "best(2) = 0");
        run("15: those without errands stand as soon as they may", alikes(4), errands(0, 3), errands(3, 2),
            "best(-1) = 2", "best(0) = 1", "best(1) = 2", "best(2) = 3", "best(3) = 0");
        run("15: nobody waits in any order", "person(1, 0)", "person(2, 0)", "person(4, 0)", errands(0, 3),
            errands(1, 2), errands(2, 1), "best(-1) = 0", Script.each(0, 2, "best(#) = #"));
    }

    private static void bars() {
        inRich("16: person", "bars(-1) ! BAD", "bars(3) ! BAD", "bars(7) ! BAD", "bars(MIN) ! BAD", "bars(MAX) ! BAD");
        run("16: the first of two", alikes(3), errands(0, 2), errands(1, 3), errands(2, 1), "waited(2, 0) = 5",
            "bars(2) ! 0");
        run("16: the second of two", alikes(3), errands(0, 12), errands(1, 3), errands(2, 1), "bars(2) ! 1");
        run("16: the last of six", SEVEN, errands(5, 1), errands(6, 1), "bars(6) ! 5", "bars(5) ! NOT");
        run("16: one minute less", alikes(3), errands(0, 21, 1), errands(1, 1), errands(2, 1), "waited(2, 0) = 2",
            "bars(2) ! 0");
        run("16: by one who is not alike, through another", "person(0, 0)", "person(1, 0)", "person(3, 0)",
            "mend(0, 3, 1)", errands(0, 2), errands(1, 2), errands(2, 33, 1), "waited(2, 0) = 1", "bars(2) ! 0");
    }

    private static void barsNobody() {
        run("16: the first has nobody ahead", alikes(2), errands(0, 1), errands(1, 1), "bars(0) ! NOT");
        run("16: no errands", alikes(2), errands(0, 6), "bars(1) ! NOT");
        run("16: who does not wait", alikes(2), errands(0, 16), errands(1, 6), "bars(1) ! NOT");
        run("16: either one alone is enough to wait", "person(1, 0)", "person(2, 0)", "person(0, 0)", "mend(0, 3, 1)",
            errands(0, 3), errands(1, 3), errands(2, 1), "waited(2, 0) = 3", "bars(2) ! NOT");
        run("16: not those behind", alikes(3), errands(0, 11), errands(1, 1), errands(2, 1), "bars(1) ! NOT",
            "bars(2) ! 1");
    }

    private static void barsWhoIsBarred() {
        run("16: not barred without the first", alikes(2), errands(0, 6, 6, 6, 6), errands(1, 6, 6), "waited(1, 1) = 1",
            "bars(1) ! 0");
        run("16: waits without the one, waits less without the other", alikes(3), errands(0, 6, 6), errands(1, 6, 6),
            errands(2, 6, 1), "waited(2, 1) = 1", "bars(2) ! 0");
        run("16: not barred without the second alone", alikes(3), errands(0, 1), errands(1, 6, 6, 6, 6), errands(2, 6),
            "waited(2, 1) = 1", "bars(2) ! 0", "clear(2)", errands(2, 6, 1), "bars(2) ! 1");
        run("16: barred without either", "person(1, 0)", "person(2, 0)", "person(0, 0)", "mend(0, 3, 1)",
            errands(0, 6, 6, 6, 6), errands(1, 6, 6, 6, 6), errands(2, 6, 6), "waited(2, 1) = 1", "bars(2) ! NOT");
    }

    /** WAITED of one who is BARRED is 0: less than what it waited with the first ahead of it. */
    private static void barsWhoWouldBeBarred() {
        run("16: barred without the first", "person(5, 0)", "person(1, 0)", "person(2, 0)", "person(0, 0)",
            "mend(0, 3, 1)", errands(0, 6, 6, 1), errands(1, 6, 6), errands(2, 1), errands(3, 6, 6, 16, 16),
            "waited(3, 0) = 1", "waited(3, 1) = 0", "bars(3) ! 0", "clear(0) = 3", "waited(3, 0) = 0",
            "waited(3, 1) = 1");
    }

    private static void led() {
        inRich("17: person", "led(-1, 0) ! BAD", "led(3, 0) ! BAD", "led(7, 1) ! BAD", "led(MIN, 0) ! BAD",
            "led(MAX, 1) ! BAD");
        inRich("17: what", "led(0, -1) ! BAD", "led(0, 2) ! BAD", "led(0, MIN) ! BAD", "led(0, MAX) ! BAD");
        run("17: no plan yet", alikes(1), errands(0, 1), "led(0, 0) ! STATE", "led(0, 1) ! STATE", "plan() = 0",
            "led(0, 0) ! 0", "led(0, 1) ! 0");
        run("17: BAD ahead of STATE", alikes(1), "led(0, 2) ! BAD", "led(1, 0) ! BAD", "led(0, 0) ! STATE");
        run("17: came since", alikes(1), "plan() = 0", "person(0, 0) = 1", errands(1, 1), "led(1, 0) ! STATE",
            "led(0, 0) ! NOT", "plan() = 0", "led(1, 0) ! 0");
        run("17: came since a plan of nobody", "plan() = 0", "person(0, 0) = 0", "led(0, 0) ! STATE",
            "led(0, 1) ! STATE");
        run("17: the seventh came since", Script.each(0, 5, "person(0, 0) = #"), "plan() = 0", "led(5, 0) ! NOT",
            "person(0, 0) = 6", "led(6, 1) ! STATE", "plan() = 0", "led(6, 1) ! NOT");
        run("17: came from a row since", alikes(1), "plan() = 0", "row(0, 0, 2)", "people(0, 0, 1) = 1",
            "led(1, 0) ! STATE");
        run("17: no errands", alikes(1), "plan() = 0", "led(0, 0) ! NOT", "led(0, 1) ! NOT");
        run("17: barred", alikes(2), errands(0, 6, 6, 6, 6), errands(1, 6, 1), "plan() = 30", "led(1, 0) ! NOT",
            "led(1, 1) ! NOT");
        run("17: the first minute and the last one", alikes(2), errands(0, 6, 6, 6, 6), errands(1, 16, 6),
            "plan() = 18", "led(0, 0) ! 0", "led(0, 1) ! 23", "led(1, 0) ! 0", "led(1, 1) ! 29");
    }

    private static void ledAsItWasTold() {
        List<String> two = Script.all(alikes(2), errands(0, 3), errands(1, 4), "plan() = 3");
        run("17: asking for where one is tells no plan", alikes(2), errands(0, 3), errands(1, 4), "where(1, 3) ! 0",
            "waited(1, 0) ! 3", "best(-1) ! 3", "bars(1) ! 0", "led(1, 0) ! STATE");
        run("17: errands since", two, "clear(0)", "clear(1)", errands(0, 46), "led(0, 1) ! 2", "led(1, 0) ! 3",
            "led(1, 1) ! 6");
        run("17: looks since", two, "mend(1, 0, 9)", "where(1, 0) ! 0", "led(1, 0) ! 3");
        run("17: asked since", two, "best(0) ! 0", "bars(1) ! 0", "waited(1, 1) ! 0", "led(1, 0) ! 3", "led(1, 1) ! 6");
        run("17: the latest plan", two, "clear(0)", "plan() = 0", "led(0, 0) ! NOT", "led(1, 0) ! 0", "led(1, 1) ! 3");
        run("17: laid back since", "image()", two, "back() = 0", "led(1, 0) ! 3");
    }

    private static void asksChangeNothing() {
        inRich("13: asked", "where(0, 0) ! 1", "where(2, 6) ! 3", "where(2, 29) ! -1");
        inRich("14: asked", "waited(0, 0) ! 0", "waited(2, 1) ! 0");
        inRich("15: asked", "best(-1) ! 3", Script.each(0, 2, "best(#) ! #"));
        inRich("16: asked", "bars(0) ! NOT", "bars(1) ! 0", "bars(2) ! NOT");
        inRich("17: asked", "led(0, 0) ! 0", "led(1, 0) ! 3", "led(1, 1) ! 6", "led(2, 1) ! 5");
    }
}
