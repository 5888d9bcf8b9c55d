import java.lang.reflect.InvocationTargetException;
import java.lang.reflect.Method;
import java.util.ArrayList;
import java.util.HashMap;
import java.util.List;
import java.util.Map;
import java.util.regex.Matcher;
import java.util.regex.Pattern;

/**
 * A run of calls on a new object, a line each: "person(5, 3) = 0" with the answer that is due, "turn()" with any,
 * "person(64, 0) ! BAD" where, besides, nothing may have changed, "say 'd<2' = 1" for a text fed and made the law
 * (1 is due if no answer is told).
 */
final class Script {
    private static final int MOST_CALLS = 512;
    private static final Pattern CALL = Pattern.compile("(\\w+)\\((.*)\\)(?: ([=!]) (\\S+))?");
    private static final Pattern SAY = Pattern.compile("say '(.*)'(?: = (\\S+))?");
    private static final Map<String, Method> FACE = new HashMap<>();
    private static final Map<String, Long> NAMES = Map.of("BAD", -1L, "NOT", -2L, "FULL", -3L, "STATE", -5L,
        "VOID", -2000000000L, "MIN", (long) Integer.MIN_VALUE, "MAX", (long) Integer.MAX_VALUE,
        "LEAST", Long.MIN_VALUE, "MOST", Long.MAX_VALUE);

    static {
        for (Method m : TwoAlike.class.getMethods()) FACE.put(m.getName(), m);
    }

    /** Something of every sort: what a refused call might spoil can be seen here. Three people; shelf 5 is bare. */
    static final List<String> RICH = List.of(
        "person(5, 3) = 0", "person(7, 63) = 1", "person(21, 0) = 2",
        "errand(0, 13) = 1", "errand(0, 22) = 2", "errand(1, 14) = 1", "errand(2, 46) = 1",
        "mend(0, 2, 9) = 0", "mend(1, 0, 4) = 7", "mend(0, 3, 1) = 0", "mend(0, 4, 10) = 0", "mend(2, 1, 8) = 0",
        "mend(2, 0, 20) = 21", "undo() = 5", "undo() = 4",
        "hat(0, 1) = -1", "hat(1, 4) = -1", "say 'd<e+1?1;h=2?b>6;a>9'",
        "go(0, 512, 2) = 8", "go(1, 6, 1) = 7", "sight(34, 9) = 0", "sight(293, 20) = 1", "image() = 3",
        "hat(0, 0) = 1", "go(2, 1020, 3) = 11", "sight(0, 5) = 2", "plan()", "errand(2, 31) = 2",
        "feed('d') = 1", "feed('<') = 2", "feed('3') = 3",
        "body(7) = 0", "body(5) = 1", "act(0, 3, 6)",
        "row(0, 0, 5) = 1", "put(0, 0, 5) = 1", "put(0, 1, 6) = 1", "put(0, 2, 7) = 1", "put(0, 3, 64) = 1",
        "row(1, 3, 4) = 1", "put(1, 3, LEAST) = 1", "put(1, 0, -9) = 1", "keep(2, 1) = 1", "row(3, 0, 0) = 1",
        "row(4, 4, 60) = 1", "put(4, 59, 2) = 1");

    private record Step(String told, Method method, Object[] arguments, boolean isAsked, long due, boolean leavesAll) {
        long on(TwoAlike x) {
            try {
                return ((Number) method.invoke(x, arguments)).longValue();
            } catch (IllegalAccessException e) {
                throw new IllegalStateException(e);
            } catch (InvocationTargetException e) {
                System.out.println(told + " threw " + e.getCause());
                return 0xdead;
            }
        }
    }

    private Script() {
    }

    /** The line for every number from the first to the last one, in place of each #. */
    static List<String> each(int first, int last, String line) {
        List<String> lines = new ArrayList<>();
        for (int k = first; k <= last; k++) lines.add(line.replace("#", Integer.toString(k)));
        return lines;
    }

    static List<String> times(int n, String line) {
        return each(1, n, line);
    }

    /** Lines and lists of lines as one list. */
    static List<String> all(Object... told) {
        List<String> lines = new ArrayList<>();
        for (Object part : told) {
            if (part instanceof List<?> several) {
                for (Object line : several) lines.add((String) line);
            } else {
                lines.add((String) part);
            }
        }
        return lines;
    }

    /** Runs lines and lists of lines on a new object. */
    static void run(Due due, String name, Object... told) {
        List<Step> steps = steps(told);
        due.holds(name + ": so many calls are promised", steps.size() <= MOST_CALLS);
        TwoAlike x = new TwoAlike();
        List<Long> before = null;
        for (int k = 0; k < steps.size(); k++) {
            Step step = steps.get(k);
            long got = step.on(x);
            if (step.isAsked) due.is(name + ": " + step.told, got, step.due);
            if (!step.leavesAll) {
                before = null;
                continue;
            }
            if (before == null) before = look(steps.subList(0, k));
            List<Long> after = look(steps.subList(0, k + 1));
            due.holds(name + ": " + step.told + " changes nothing", before.equals(after));
            before = after;
        }
    }

    /** Whether lines behind others change what can be seen. */
    static boolean changes(List<String> ahead, String... told) {
        return !look(steps(ahead)).equals(look(steps(ahead, List.of(told))));
    }

    private static List<Long> look(List<Step> steps) {
        return Look.at(() -> {
            TwoAlike x = new TwoAlike();
            for (Step step : steps) step.on(x);
            return x;
        });
    }

    private static List<Step> steps(Object... told) {
        List<Step> steps = new ArrayList<>();
        for (String line : all(told)) add(steps, line);
        return steps;
    }

    private static void add(List<Step> steps, String line) {
        Matcher say = SAY.matcher(line);
        if (say.matches()) {
            for (char c : say.group(1).toCharArray()) steps.add(step(line, "feed", "" + (int) c, null, null));
            steps.add(step(line, "law", "", "=", say.group(2) == null ? "1" : say.group(2)));
            return;
        }
        Matcher call = CALL.matcher(line);
        if (!call.matches()) throw new IllegalArgumentException(line);
        steps.add(step(line, call.group(1), call.group(2), call.group(3), call.group(4)));
    }

    private static Step step(String line, String name, String told, String sign, String due) {
        Method method = FACE.get(name);
        String[] parts = told.isEmpty() ? new String[0] : told.split(", ");
        if (method == null || parts.length != method.getParameterCount()) throw new IllegalArgumentException(line);
        Object[] arguments = new Object[parts.length];
        for (int i = 0; i < parts.length; i++) {
            long v = number(parts[i]);
            if (method.getParameterTypes()[i] == long.class) arguments[i] = v;
            else arguments[i] = Math.toIntExact(v);
        }
        return new Step(line, method, arguments, sign != null, due == null ? 0 : number(due), "!".equals(sign));
    }

    private static long number(String told) {
        if (NAMES.containsKey(told)) return NAMES.get(told);
        if (told.length() == 3 && told.startsWith("'")) return told.charAt(1);
        return Long.decode(told);
    }
}
