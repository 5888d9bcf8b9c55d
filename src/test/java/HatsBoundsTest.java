import java.util.List;

/** Promises 18 to 21 at their edges: the fewest hats, pairs who are alike, the greatest set, who passes. */
public final class HatsBoundsTest {
    private static final Due due = new Due("HatsBoundsTest");
    private static final List<String> SEVEN = Script.each(0, 6, "person(0, 63) = #");

    public static void main(String[] args) {
        hatsRefused();
        fewestHats();
        noWay();
        hatsOfLikeOnes();
        hatsThatAreWorn();
        needs();
        kinds();
        kindsOfLikeOnes();
        passRefused();
        pass();
        due.close();
    }

    private static void run(String name, Object... told) {
        Script.run(due, name, told);
    }

    private static void inRich(String name, Object... told) {
        Script.run(due, name, Script.RICH, Script.all(told));
    }

    private static List<String> hatsAre(int... parts) {
        List<String> lines = Script.all();
        int worn = 0;
        for (int p = 0; p < parts.length; p++) {
            lines.add("hats(" + p + ") ! " + parts[p]);
            if (parts[p] >= 0) worn++;
        }
        lines.add("hats(-1) ! " + worn);
        lines.add("hats(" + parts.length + ") ! VOID");
        return lines;
    }

    private static void hatsRefused() {
        inRich("18: person", "hats(-2) ! VOID", "hats(3) ! VOID", "hats(7) ! VOID", "hats(MIN) ! VOID",
            "hats(MAX) ! VOID");
        run("18: nobody", "hats(-1) ! 0", "hats(0) ! VOID", "hats(-2) ! VOID");
        run("18: the last person", SEVEN, "hats(6) ! 5", "hats(7) ! VOID");
        run("18: VOID ahead of NOT", "person(0, 0)", "person(0, 0)", "hats(-1) ! NOT", "hats(0) ! NOT", "hats(1) ! NOT",
            "hats(2) ! VOID", "hats(-2) ! VOID");
    }

    private static void fewestHats() {
        run("18: one alone", "person(0, 63)", hatsAre(-1));
        run("18: none is needed", "person(0, 63)", "person(1, 63)", hatsAre(-1, -1));
        run("18: one is just enough", "person(0, 32)", "person(0, 32)", hatsAre(-1, 5));
        run("18: one is not enough", "person(0, 1)", "person(1, 1)", "mend(0, 3, 1)", "hats(-1) ! NOT");
        run("18: two are just enough", "person(0, 1)", "person(0, 2)", "mend(0, 3, 1)", hatsAre(0, 1));
        run("18: a part of each is needed for all seven", SEVEN, hatsAre(-1, 0, 1, 2, 3, 4, 5));
        run("18: all seven wear one", SEVEN, "say 'h<2'", hatsAre(0, 0, 0, 0, 0, 0, 0));
        run("18: all seven wear the one that they may", Script.each(0, 5, "person(0, 32)"), "person(0, 1)", "say 'h<2'",
            hatsAre(5, 5, 5, 5, 5, 5, 0));
        run("18: a hat may also spoil", "person(0, 63)", "person(1, 63)", "say 'h>0'", hatsAre(-1, -1), "say 'd=1'",
            hatsAre(-1, 0));
        run("18: by the month", "person(0, 63)", "person(0, 63)", "say 'm=0&h=0'", hatsAre(-1, 0), "turn() = 1",
            hatsAre(-1, -1));
    }

    private static void noWay() {
        run("18: nobody may change", "person(0, 0)", "person(0, 0)", "hats(-1) ! NOT");
        run("18: all in all too alike", "person(0, 63)", "person(0, 63)", "mend(0, 3, 2)", "hats(-1) ! NOT",
            "mend(0, 3, 1)", hatsAre(0, 1));
        run("18: a law that nothing helps", SEVEN, "say '1'", "hats(-1) ! NOT", "hats(6) ! NOT", "say '0'",
            hatsAre(-1, -1, -1, -1, -1, -1, -1));
        run("18: one too many", Script.each(0, 2, "person(0, 1) = #"), "hats(-1) ! NOT", "mend(2, 1, 2) = 1",
            hatsAre(-1, 0, 1));
    }

    private static void hatsOfLikeOnes() {
        run("18: none ahead of parts, by numbers", "person(0, 1)", "person(0, 1)", hatsAre(-1, 0));
        run("18: parts by numbers", "person(0, 0)", "person(0, 60)", hatsAre(-1, 2));
        run("18: fewest ahead of first", "person(0, 1)", "person(0, 1)", "person(1, 2)", hatsAre(-1, 0, 1),
            "mend(1, 1, 5) = 1", hatsAre(-1, 2, -1));
        run("18: the first part of the first person", "person(0, 6)", "person(0, 0)", "person(2, 0)",
            hatsAre(2, -1, -1));
    }

    private static void hatsThatAreWorn() {
        run("18: hats that are worn do not count", "person(0, 3)", "person(0, 3)", "hat(0, 1) = -1", hatsAre(-1, 0),
            "of(0, 3) = 1", "needs() = 0");
        run("18: a hat that may no longer be put on", "person(0, 3)", "person(0, 0)", "hat(0, 1) = -1", "mend(0, 1, 0)",
            "needs() ! 0", "hats(-1) ! NOT");
        inRich("18: asked", "hats(-1) ! 1", "hats(0) ! 1", "hats(1) ! -1", "hats(2) ! -1");
    }

    private static void needs() {
        run("19: nobody", "needs() ! 0");
        run("19: one alone", "person(0, 0)", "needs() ! 0");
        run("19: two", "person(0, 0)", "person(0, 0)", "needs() ! 1");
        run("19: all", SEVEN, "needs() ! 21", "hat(6, 0)", "needs() ! 15");
        run("19: just alike, just not", "person(0, 0)", "person(3, 0)", "mend(0, 3, 2)", "needs() ! 1", "mend(0, 3, 1)",
            "needs() ! 0");
        inRich("19: asked", "needs() ! 2");
    }

    private static void kinds() {
        inRich("20: what", "kinds(-1) ! BAD", "kinds(2) ! BAD", "kinds(MIN) ! BAD", "kinds(MAX) ! BAD");
        run("20: nobody", "kinds(0) ! 0", "kinds(1) ! 0", "kinds(2) ! BAD");
        run("20: one alone", "person(0, 0)", "kinds(0) ! 1", "kinds(1) ! 1");
        run("20: all", SEVEN, "kinds(0) ! 7", "kinds(1) ! 127");
        run("20: all but the first, all but the last", SEVEN, "hat(0, 0)", "kinds(0) ! 6", "kinds(1) ! 126",
            "hat(0, -1)", "hat(6, 0)", "kinds(1) ! 63");
        run("20: each to each, not by one between", "person(1, 0)", "person(0, 0)", "person(2, 0)", "mend(0, 3, 1)",
            "kinds(0) ! 2", "kinds(1) ! 3", "mend(0, 3, 2)", "kinds(1) ! 7");
        inRich("20: asked", "kinds(0) ! 2", "kinds(1) ! 3");
    }

    private static void kindsOfLikeOnes() {
        run("20: nobody is alike", Script.each(0, 6, "person(#, 0)"), "kinds(0) ! 1", "kinds(1) ! 1");
        run("20: two twos", "person(1, 0)", "person(2, 0)", "person(2, 0)", "person(1, 0)", "kinds(0) ! 2",
            "kinds(1) ! 6");
        run("20: the greater one, though it has more bits", "person(1, 0)", "person(1, 0)", "person(2, 0)",
            "person(2, 0)", "kinds(1) ! 3", "person(2, 0)", "kinds(0) ! 3", "kinds(1) ! 28");
    }

    private static void passRefused() {
        inRich("21: one and the same", Script.each(0, 2, "pass(##) ! VOID"));
        inRich("21: nobody", "pass(3) ! VOID", "pass(30) ! VOID", "pass(13) ! VOID", "pass(31) ! VOID",
            "pass(9) ! VOID", "pass(90) ! VOID");
        inRich("21: no two", "pass(-1) ! VOID", "pass(-10) ! VOID", "pass(-12) ! VOID", "pass(100) ! VOID",
            "pass(101) ! VOID", "pass(MIN) ! VOID", "pass(MAX) ! VOID");
        run("21: the last two", SEVEN, "pass(56) ! -1", "pass(65) ! -1", "pass(67) ! VOID", "pass(76) ! VOID",
            "pass(66) ! VOID");
    }

    private static void pass() {
        run("21: none first", "person(0, 63)", "person(0, 0)", "pass(1) ! -1", "mend(0, 3, 6)", "pass(1) ! -1");
        run("21: the first part", "person(0, 63)", "person(1, 0)", "pass(1) ! 0");
        run("21: the last part", "person(0, 63)", "person(32, 0)", "pass(1) ! 5", "pass(10) ! NOT");
        run("21: of parts the first", "person(0, 60)", "person(63, 0)", "mend(0, 3, 5)", "pass(1) ! 2");
        run("21: not of may change", "person(0, 31)", "person(32, 0)", "pass(1) ! NOT");
        run("21: not by two", "person(0, 63)", "person(3, 0)", "pass(1) ! NOT", "mend(0, 3, 1)", "pass(1) ! 0");
        run("21: by the law, where hats count", "person(0, 8)", "person(0, 8)", "say 'h=1'", "pass(1) ! 3", "hat(1, 3)",
            "pass(1) ! -1", "say 'h=2'", "pass(1) ! 3", "say 'h=3'", "pass(1) ! NOT");
        run("21: instead of what it wears", "person(0, 3)", "person(0, 0)", "hat(0, 0)", "alike(1) = 0", "pass(1) ! -1",
            "mend(1, 0, 2)", "pass(1) ! 1");
        run("21: a hat that stays is none to choose", "person(0, 3)", "person(1, 0)", "hat(0, 0)", "mend(0, 1, 2)",
            "alike(1) = 1", "pass(1) ! NOT");
        run("21: as the other one is seen", "person(0, 3)", "person(0, 3)", "hat(1, 1)", "pass(1) ! 1",
            "pass(10) ! -1");
        inRich("21: asked", "pass(1) ! 0", "pass(10) ! -1", "pass(12) ! 0", "pass(20) ! NOT", "pass(2) ! -1");
    }
}
