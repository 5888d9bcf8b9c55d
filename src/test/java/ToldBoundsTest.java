import java.util.List;

/** Promises 22 to 28 at their edges: told days, who was judged, where to watch, sights, who they can be. */
public final class ToldBoundsTest {
    private static final Due due = new Due("ToldBoundsTest");
    private static final List<String> SEVEN = Script.each(0, 6, "person(0, 0) = #");
    private static final List<String> TWO = Script.each(0, 1, "person(0, 0) = #");

    public static void main(String[] args) {
        goRefused();
        go();
        judgeRefused();
        judge();
        judgeTheLeast();
        watchRefused();
        watch();
        apart();
        sightRefused();
        sight();
        atLeastRefused();
        atLeast();
        barsOfSights();
        whoRefused();
        who();
        goneRefused();
        gone();
        livedOn();
        due.close();
    }

    private static void run(String name, Object... told) {
        Script.run(due, name, told);
    }

    private static void inRich(String name, Object... told) {
        Script.run(due, name, Script.RICH, Script.all(told));
    }

    private static void goRefused() {
        inRich("22: person", "go(-1, 5, 1) ! BAD", "go(3, 5, 1) ! BAD", "go(7, 5, 1) ! BAD", "go(MIN, 5, 1) ! BAD",
            "go(MAX, 5, 1) ! BAD");
        inRich("22: minutes too small", "go(0, -1, 1) ! BAD", "go(0, -100, 1) ! BAD", "go(0, -95, 1) ! BAD",
            "go(0, -71, 1) ! BAD", "go(0, MIN, 1) ! BAD");
        inRich("22: minutes too great", "go(0, 30, 1) ! BAD", "go(0, 99, 1) ! BAD", "go(0, 2930, 1) ! BAD",
            "go(0, 3030, 1) ! BAD", "go(0, 3029, 1) ! BAD", "go(0, 10005, 1) ! BAD", "go(0, MAX, 1) ! BAD");
        inRich("22: from behind to", "go(0, 100, 1) ! BAD", "go(0, 605, 1) ! BAD", "go(0, 2928, 1) ! BAD",
            "go(0, 2900, 1) ! BAD");
        inRich("22: street", "go(0, 5, -2) ! BAD", "go(0, 5, 5) ! BAD", "go(0, 5, MIN) ! BAD", "go(0, 5, MAX) ! BAD");
    }

    private static void go() {
        run("22: the first and the last person", SEVEN, "go(0, 0, 1) = 1", "go(6, 0, 1) = 1", "judge(1) = 0",
            "judge(2) = 6", "go(7, 0, 1) ! BAD");
        run("22: minute 0", TWO, "go(0, 0, 0) = 1", "watch(1, 0) = 0", "watch(1, 1) = 1");
        run("22: minute 29", TWO, "go(0, 2929, 0) = 1", "watch(1, 0) = 290", "watch(1, 1) = 1");
        run("22: all minutes", TWO, "go(0, 29, 0) = 30", "watch(1, 1) = 30");
        run("22: to is the same as from, and one more", TWO, "go(0, 1515, 2) = 1", "watch(1, 1) = 1",
            "go(0, 1516, 2) = 2", "watch(1, 1) = 2", "watch(1, 0) = 152");
        run("22: the first and the last street", TWO, "go(0, 0, 0) = 1", "watch(1, 0) = 0", "go(0, 0, 4) = 1",
            "watch(1, 0) = 4");
        run("22: at home", TWO, "go(0, 29, 3) = 30", "go(0, 27, -1) = 28", "watch(1, 1) = 2", "watch(1, 0) = 283",
            "go(0, 2829, -1) = 2", "watch(1, 1) = 0");
        run("22: told anew, these minutes alone", TWO, "go(0, 29, 3) = 30", "go(0, 1012, 1) = 3", "go(1, 29, 3) = 30",
            "watch(1, 1) = 3", "watch(1, 0) = 101");
    }

    private static void judgeRefused() {
        inRich("23: what", "judge(-1) ! BAD", "judge(3) ! BAD", "judge(MIN) ! BAD", "judge(MAX) ! BAD");
        run("23: BAD ahead of NOT", "judge(3) ! BAD", "judge(-1) ! BAD", "judge(0) ! NOT", "judge(1) ! NOT",
            "judge(2) ! NOT");
    }

    private static void judge() {
        run("23: one alone", "person(0, 0)", "go(0, 29, 1)", "judge(0) ! NOT");
        run("23: both at home", TWO, Script.each(0, 2, "judge(#) ! NOT"));
        run("23: one at home", TWO, "go(0, 29, 1)", "judge(0) ! NOT");
        run("23: in unlike streets", TWO, "go(0, 29, 1)", "go(1, 29, 2)", "judge(0) ! NOT");
        run("23: one minute too late", TWO, "go(0, 9, 1)", "go(1, 1029, 1)", "judge(0) ! NOT", "go(1, 909, 1)",
            "judge(0) ! 9");
        run("23: seven, each alone", SEVEN, Script.each(0, 6, "go(#, #0#, 3)"), "judge(0) ! NOT",
            Script.each(0, 4, "go(#, 29, #)"), "go(5, 29, -1)", "go(6, 29, -1)", "judge(0) ! NOT", "go(6, 2929, 4)",
            "judge(0) ! 29", "judge(1) ! 4", "judge(2) ! 6");
        run("23: who is with one unlike, alike to one elsewhere", "person(1, 0)", "person(0, 0)", "person(2, 0)",
            "mend(0, 3, 1)", "go(0, 0, 1)", "go(2, 0, 1)", "judge(0) ! NOT", "go(1, 0, 1)", "judge(0) ! 0",
            "judge(1) ! 0", "judge(2) ! 1");
        run("23: who meets in one day's first minute is not in the other's last", "person(0, 0)", "person(0, 0)",
            "person(63, 0)", "go(1, 0, 1)", "go(2, 0, 1)", "judge(0) ! NOT");
        run("23: not alike", "person(0, 0)", "person(1, 0)", "go(0, 29, 1)", "go(1, 29, 1)", "judge(0) ! NOT",
            "mend(0, 3, 1)", "judge(0) ! 0");
        run("23: minute 0, street 0", TWO, "go(0, 0, 0)", "go(1, 0, 0)", "judge(0) ! 0", "judge(1) ! 0",
            "judge(2) ! 1");
        run("23: minute 29, street 4", TWO, "go(0, 2929, 4)", "go(1, 2929, 4)", "judge(0) ! 29", "judge(1) ! 0",
            "judge(2) ! 1");
        run("23: as they are seen now", "person(0, 1)", "person(1, 0)", "go(0, 29, 1)", "go(1, 29, 1)",
            "judge(0) ! NOT", "hat(0, 0)", "judge(0) ! 0");
        inRich("23: asked", Script.each(0, 2, "judge(#) ! NOT"), "go(1, 412, 2)", "mend(0, 3, 3)", "judge(0) ! 5",
            "judge(1) ! 0", "judge(2) ! 1");
    }

    private static void judgeTheLeast() {
        run("23: the last two", SEVEN, "go(5, 3, 0)", "go(6, 3, 0)", "judge(1) ! 5", "judge(2) ! 6");
        run("23: three in one street", SEVEN, "go(6, 3, 0)", "go(4, 3, 0)", "go(2, 3, 0)", "judge(1) ! 2",
            "judge(2) ! 4");
        run("23: two streets, the least of both", SEVEN, "go(1, 3, 4)", "go(2, 3, 0)", "go(3, 3, 0)", "go(6, 3, 4)",
            "judge(1) ! 1", "judge(2) ! 6");
        run("23: the minute ahead of numbers", SEVEN, "go(0, 5, 4)", "go(1, 505, 4)", "go(5, 404, 2)", "go(6, 404, 2)",
            "judge(0) ! 4", "judge(1) ! 5", "judge(2) ! 6");
    }

    private static void watchRefused() {
        inRich("24: one and the same", Script.each(0, 2, "watch(##, 0) ! BAD"),
            Script.each(0, 2, "watch(##, 1) ! BAD"));
        inRich("24: nobody", "watch(3, 0) ! BAD", "watch(30, 0) ! BAD", "watch(13, 1) ! BAD", "watch(31, 1) ! BAD",
            "watch(9, 0) ! BAD");
        inRich("24: no two", "watch(-1, 0) ! BAD", "watch(-10, 0) ! BAD", "watch(-12, 1) ! BAD", "watch(100, 0) ! BAD",
            "watch(101, 0) ! BAD", "watch(MIN, 0) ! BAD", "watch(MAX, 1) ! BAD");
        inRich("24: what", "watch(1, -1) ! BAD", "watch(1, 2) ! BAD", "watch(1, MIN) ! BAD", "watch(1, MAX) ! BAD");
        run("24: BAD ahead of NOT", TWO, "watch(1, 2) ! BAD", "watch(1, 0) ! NOT", "watch(0, 0) ! BAD");
        run("24: the last two", SEVEN, "go(6, 303, 2)", "watch(65, 0) ! 32", "watch(56, 0) ! NOT", "watch(67, 0) ! BAD",
            "watch(76, 0) ! BAD");
    }

    private static void watch() {
        run("24: both at home", TWO, "watch(1, 0) ! NOT", "watch(1, 1) ! 0");
        run("24: the same all day", TWO, "go(0, 29, 3)", "go(1, 29, 3)", "watch(1, 0) ! NOT", "watch(10, 0) ! NOT",
            "watch(1, 1) ! 0");
        run("24: the first minute and street", TWO, "go(0, 0, 0)", "watch(1, 0) ! 0");
        run("24: the last minute and street", TWO, "go(0, 2929, 4)", "watch(1, 0) ! 294", "watch(1, 1) ! 1");
        run("24: the other one alone is out", TWO, "go(1, 29, 2)", "watch(1, 0) ! NOT", "watch(1, 1) ! 30",
            "watch(10, 0) ! 2");
        run("24: where that one is, not the other", TWO, "go(0, 29, 4)", "go(1, 29, 1)", "watch(1, 0) ! 4",
            "watch(10, 0) ! 1");
        run("24: the first of minutes", TWO, "go(0, 29, 3)", "go(1, 29, 3)", "go(1, 1313, -1)", "go(1, 1717, 0)",
            "watch(1, 0) ! 133", "watch(10, 0) ! 170", "watch(1, 1) ! 2");
        inRich("24: asked", "watch(1, 0) ! 52", "watch(10, 0) ! 1", "watch(2, 0) ! 52", "watch(20, 0) ! 103");
    }

    private static void apart() {
        run("24: 30 at most", TWO, "go(0, 29, 0)", "go(1, 29, 1)", "watch(1, 1) ! 30", "watch(10, 1) ! 30");
        run("24: the last two", SEVEN, "go(5, 29, 0)", "go(6, 3, 0)", "watch(56, 1) ! 26", "watch(65, 1) ! 26",
            "watch(56, 0) ! 40", "watch(65, 0) ! NOT");
        run("24: one minute", TWO, "go(0, 29, 0)", "go(1, 28, 0)", "watch(1, 1) ! 1", "watch(1, 0) ! 290");
        run("24: out and at home are apart", TWO, "go(0, 3, 0)", "watch(1, 1) ! 4", "watch(10, 1) ! 4");
    }

    private static void sightRefused() {
        inRich("25: minute and street too small", "sight(-1, 5) ! BAD", "sight(-6, 5) ! BAD", "sight(-10, 5) ! BAD",
            "sight(MIN, 5) ! BAD");
        inRich("25: street too great", "sight(5, 5) ! BAD", "sight(9, 5) ! BAD", "sight(295, 5) ! BAD",
            "sight(299, 5) ! BAD");
        inRich("25: minute too great", "sight(300, 5) ! BAD", "sight(304, 5) ! BAD", "sight(1000, 5) ! BAD",
            "sight(MAX, 5) ! BAD");
        inRich("25: looks", "sight(0, -1) ! BAD", "sight(0, 64) ! BAD", "sight(0, MIN) ! BAD", "sight(0, MAX) ! BAD");
    }

    private static void sight() {
        run("25: the least", "sight(0, 0) = 0", "of(0, 20) = 0", "of(0, 21) = 0", "of(0, 22) = 0");
        run("25: the greatest", "sight(294, 63) = 0", "of(0, 20) = 29", "of(0, 21) = 4", "of(0, 22) = 63");
        run("25: the greatest street of minute 0", "sight(4, 1) = 0", "of(0, 20) = 0", "of(0, 21) = 4");
        run("25: the least street of minute 29", "sight(290, 1) = 0", "of(0, 20) = 29", "of(0, 21) = 0");
        run("25: the tenth comes, one more not", Script.each(0, 9, "sight(#0, #) = #"), "sight(0, 0) ! FULL",
            "sight(294, 63) ! FULL", "count(2) = 10");
        run("25: BAD ahead of FULL", Script.each(0, 9, "sight(#0, #) = #"), "sight(0, 64) ! BAD", "sight(5, 0) ! BAD",
            "sight(300, 0) ! BAD", "sight(-1, 0) ! BAD");
        run("25: a refused one takes no number", "sight(5, 0) ! BAD", "sight(0, 0) = 0", "sight(0, 64) ! BAD",
            "sight(0, 0) = 1");
        run("25: room again where an image has room", Script.each(0, 8, "sight(#0, #) = #"), "image() = 0",
            "sight(0, 0) = 9", "sight(0, 0) ! FULL", "back() = 0", "count(2) = 9", "sight(11, 1) = 9", "of(9, 22) = 1");
    }

    private static void atLeastRefused() {
        inRich("26: hats", "atLeast(-1) ! BAD", "atLeast(7) ! BAD", "atLeast(MIN) ! BAD", "atLeast(MAX) ! BAD");
        run("26: BAD of no sights, too", "atLeast(-1) ! BAD", "atLeast(7) ! BAD", "atLeast(0) ! 0", "atLeast(6) ! 0");
    }

    private static void atLeast() {
        run("26: one sight", "sight(0, 0)", "atLeast(0) ! 1", "atLeast(6) ! 1");
        run("26: ten of one", Script.each(0, 9, "sight(#1, 7) = #"), "atLeast(0) ! 1");
        run("26: ten of ten", Script.each(0, 4, "sight(2#, 7) = #"), Script.each(0, 4, "sight(2#, 8)"),
            "atLeast(6) ! 10");
        run("26: ten of five", Script.each(0, 4, "sight(2#, 7)"), Script.each(0, 4, "sight(3#, 7)"), "atLeast(0) ! 5");
        run("26: the fewest, though the first that fits costs one more", "sight(0, 0)", "sight(10, 7)", "sight(20, 56)",
            "sight(30, 7)", "sight(0, 56)", "atLeast(3) = 2", "atLeast(2) = 3", "atLeast(6) = 2");
        run("26: the fewest, though the first way that is found takes three", "sight(0, 0)", "sight(10, 3)",
            "sight(20, 15)", "sight(30, 48)", "atLeast(3) = 2", "atLeast(2) = 2", "atLeast(1) = 4", "atLeast(4) = 2",
            "atLeast(6) = 1");
        run("26: a chain that is no circle", "sight(0, 0)", "sight(10, 3)", "sight(20, 12)", "sight(30, 15)",
            "atLeast(2) = 2", "atLeast(3) = 2", "atLeast(4) = 1", "atLeast(1) = 4");
        inRich("26: asked", "atLeast(0) ! 3", "atLeast(2) ! 2", "atLeast(3) ! 2", "atLeast(4) ! 1");
    }

    private static void barsOfSights() {
        for (int hats = 0; hats <= 6; hats++) {
            int just = (1 << hats) - 1;
            run("26: just as many parts, " + hats, "sight(0, 0)", "sight(10, " + just + ")",
                "atLeast(" + hats + ") ! 1");
            if (hats < 6) run("26: one part more, " + hats, "sight(0, 0)", "sight(10, " + (just * 2 + 1) + ")",
                "atLeast(" + hats + ") ! 2");
        }
        run("26: like minutes, streets, looks", "sight(34, 9)", "sight(34, 9)", "atLeast(0) ! 1");
        run("26: like minutes and looks, unlike streets", "sight(33, 9)", "sight(34, 9)", "atLeast(6) ! 2");
        run("26: like minutes and streets, unlike looks", "sight(34, 9)", "sight(34, 8)", "atLeast(6) ! 2");
        run("26: unlike minutes, like streets, looks", "sight(34, 9)", "sight(44, 9)", "atLeast(0) ! 1");
        run("26: unlike minutes, streets, like looks", "sight(34, 9)", "sight(40, 9)", "atLeast(0) ! 1");
    }

    private static void whoRefused() {
        inRich("27: sight", "who(-1) ! BAD", "who(3) ! BAD", "who(9) ! BAD", "who(10) ! BAD", "who(MIN) ! BAD",
            "who(MAX) ! BAD");
        run("27: no sights", SEVEN, "who(0) ! BAD");
        run("27: the tenth", SEVEN, Script.times(9, "sight(0, 1)"), "sight(0, 0) = 9", "who(9) ! 127", "who(8) ! 0",
            "who(10) ! BAD");
    }

    private static void who() {
        run("27: nobody is there", "sight(0, 0)", "who(0) ! 0");
        run("27: nobody looks so", "person(1, 0)", "sight(0, 0)", "who(0) ! 0");
        run("27: by seen looks", "person(1, 1)", "hat(0, 0)", "sight(0, 0)", "who(0) ! 1");
        run("27: by none in place", "person(1, 1)", "hat(0, 0)", "sight(0, 1)", "who(0) ! 1");
        run("27: by the first part and the last", "person(0, 33)", "sight(0, 1)", "sight(0, 32)", "sight(0, 2)",
            "sight(0, 33)", "who(0) ! 1", "who(1) ! 1", "who(2) ! 0", "who(3) ! 0");
        run("27: in place of what is worn, not upon it", "person(0, 3)", "hat(0, 0)", "sight(0, 2)", "sight(0, 3)",
            "who(0) ! 1", "who(1) ! 0");
        run("27: by what is worn and may no longer be put on", "person(0, 3)", "hat(0, 0)", "mend(0, 1, 0)",
            "sight(0, 1)", "sight(0, 0)", "sight(0, 2)", "who(0) ! 1", "who(1) ! 1", "who(2) ! 0");
        run("27: whatever the law", "person(0, 0)", "person(1, 0)", "say '1'", "sight(0, 0)", "who(0) ! 1");
        inRich("27: asked", "who(0) ! 0", "who(1) ! 2", "who(2) ! 3");
    }

    private static void goneRefused() {
        inRich("28: minute", "gone(-1, 0) ! BAD", "gone(30, 0) ! BAD", "gone(-1, 1) ! BAD", "gone(30, 1) ! BAD",
            "gone(MIN, 0) ! BAD", "gone(MAX, 1) ! BAD");
        inRich("28: what", "gone(0, -1) ! BAD", "gone(0, 2) ! BAD", "gone(0, MIN) ! BAD", "gone(0, MAX) ! BAD");
    }

    private static void gone() {
        run("28: nobody", "gone(0, 0) ! 0", "gone(29, 1) ! 0", "sight(0, 0)", "gone(0, 0) ! 0");
        run("28: no sights", SEVEN, "gone(0, 0) ! 127", "gone(29, 0) ! 127");
        run("28: a sight in minute 0", "person(0, 0)", "sight(0, 0)", "gone(0, 0) ! 0", "gone(1, 0) ! 1");
        run("28: a sight in minute 29", "person(0, 0)", "sight(294, 0)", "gone(0, 0) ! 0", "gone(29, 0) ! 0");
        run("28: just in that minute, just behind it", "person(0, 0)", "sight(150, 0)", "gone(14, 0) ! 0",
            "gone(15, 0) ! 0", "gone(16, 0) ! 1");
        run("28: the first and the last person", "person(1, 0)", Script.times(5, "person(2, 0)"), "person(3, 0)",
            "sight(0, 2)", "gone(0, 0) ! 65", "gone(1, 0) ! 127");
        run("28: by a hat", "person(0, 1)", "person(0, 0)", "sight(0, 1)", "gone(0, 0) ! 2");
    }

    private static void livedOn() {
        run("28: nobody is there still", SEVEN, "gone(0, 1) ! 0");
        run("28: nobody is gone", SEVEN, "sight(0, 0)", "gone(0, 1) ! 0");
        run("28: somebody alike is there", "person(1, 0)", "person(0, 0)", "mend(0, 3, 1)", "sight(290, 0)",
            "gone(29, 0) ! 1", "gone(29, 1) ! 1", "mend(0, 3, 0)", "gone(29, 1) ! 0");
        run("28: somebody alike is gone, too", "person(1, 0)", "person(1, 0)", "person(62, 0)", "sight(0, 62)",
            "gone(0, 0) ! 3", "gone(0, 1) ! 0");
        run("28: six live on in one", "person(0, 0)", Script.times(6, "person(1, 0)"), "mend(0, 3, 6)", "sight(0, 0)",
            "gone(0, 0) ! 126", "gone(0, 1) ! 126");
        inRich("28: asked", "gone(0, 0) ! 4", "gone(0, 1) ! 4", "gone(4, 0) ! 5", "gone(4, 1) ! 5");
    }
}
