import java.util.ArrayList;
import java.util.List;

/** A look sees every change there is: else "changes nothing" would say nothing. */
public final class LookTest {
    private static final Due due = new Due("LookTest");

    public static void main(String[] args) {
        String[] calls = {"person(1, 1)", "people(0, 0, 1)", "errand(2, 11)", "clear(0)", "hat(0, -1)", "mend(0, 0, 6)",
            "mend(1, 1, 0)", "mend(2, 2, 1)", "mend(0, 3, 2)", "mend(0, 4, 11)", "feed('0')", "law()", "plan()",
            "go(0, 1313, 2)", "go(1, 0, 2)", "go(2, 2020, -1)", "sight(34, 9)", "turn()", "image()", "back()", "undo()",
            "redo()", "body(0)", "act(0, 2, 6)", "act(2, 0, 0)", "keep(2, 0)", "keep(5, 0)", "keep(2, -1)", "keep(1, -1)",
            "row(3, 1, 0)", "row(3, 0, 1)", "row(5, 0, 0)", "row(0, 0, 5)", "put(0, 4, 1)", "put(4, 59, 0)",
            "put(1, 3, MOST)", "shift(0, 0, 0, 1, 2)"};
        for (String call : calls) due.holds(call + " is seen", Script.changes(Script.RICH, call));
        List<String> full = new ArrayList<>(Script.RICH);
        full.addAll(Script.each(3, 6, "person(#, #)"));
        for (int p = 0; p < 7; p++) {
            due.holds("the day of " + p + " is seen", Script.changes(full, "go(" + p + ", 2929, 0)"));
            due.holds("looks of " + p + " are seen", Script.changes(full, "mend(" + p + ", 0, 63)"));
            due.holds("drift of " + p + " is seen", Script.changes(full, "mend(" + p + ", 2, 63)"));
        }
        for (String call : new String[] {"needs()", "image()"}) {
            due.holds(call + " twice is seen as nothing", !Script.changes(List.of("image()"), call));
        }
        List<String> imageOfOut = List.of("person(1, 1)", "go(0, 3, 1)", "image()", "go(0, 3, -1)");
        due.holds("the image is seen", Script.changes(imageOfOut, "image()"));
        due.close();
    }
}
