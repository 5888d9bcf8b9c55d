import java.lang.reflect.InvocationTargetException;
import java.lang.reflect.Method;
import java.util.ArrayList;
import java.util.Comparator;
import java.util.List;

/** Any arguments in any state: no call throws, and the same calls give the same answers. */
public final class AnyCallsTest {
    private static final Due due = new Due("AnyCallsTest");
    private static final int[] FAR = {Integer.MIN_VALUE, Integer.MIN_VALUE + 1, -1000000, -101, -100, -11, -10, -9, -2, -1,
        60, 61, 63, 64, 99, 100, 255, 256, 299, 300, 2929, 2930, 1000000, Integer.MAX_VALUE - 1, Integer.MAX_VALUE};
    private static long state;

    private static int next(int n) {
        state = state * 6364136223846793005L + 1442695040888963407L;
        return (int) ((state >>> 33) % n);
    }

    private static Object argument(Class<?> type) {
        int kind = next(8);
        int v = kind == 0 ? FAR[next(FAR.length)] : kind < 5 ? next(7) : kind < 7 ? next(64) : next(300);
        if (type == long.class) return (long) v * (next(3) == 0 ? state : 1);
        return v;
    }

    private static long run(List<Method> methods, long seed) throws IllegalAccessException {
        state = seed;
        TwoAlike x = new TwoAlike();
        long digest = 0;
        for (int k = 0; k < 512; k++) {
            Method method = methods.get(next(methods.size()));
            Object[] arguments = new Object[method.getParameterCount()];
            for (int i = 0; i < arguments.length; i++) arguments[i] = argument(method.getParameterTypes()[i]);
            try {
                digest = digest * 31 + ((Number) method.invoke(x, arguments)).longValue();
            } catch (InvocationTargetException e) {
                due.holds(method + " does not throw " + e.getCause(), false);
            }
        }
        return digest;
    }

    public static void main(String[] args) throws IllegalAccessException {
        List<Method> methods = new ArrayList<>();
        for (Method m : TwoAlike.class.getDeclaredMethods()) {
            if (java.lang.reflect.Modifier.isPublic(m.getModifiers())) methods.add(m);
        }
        methods.sort(Comparator.comparing(Method::getName));
        for (int seed = 1; seed <= 1500; seed++) {
            long first = run(methods, seed * 7919L);
            due.is("run " + seed + " once more", run(methods, seed * 7919L), first);
        }
        due.close();
    }
}
