import java.lang.reflect.InvocationTargetException;
import java.lang.reflect.Method;
import java.lang.reflect.Modifier;
import java.util.Arrays;
import java.util.Comparator;
import java.util.stream.IntStream;

/** Runs every test of a class that bears an Edge, so that none is written and then left out. */
final class Edges {
    static final int UNKNOWN = -1, OUTSIDE = -2, STATE = -3, NONE = -9;
    static final long LOST = Long.MIN_VALUE;
    private static final int LEAST = Integer.MIN_VALUE, MOST = Integer.MAX_VALUE;

    private Edges() { }

    static void runAll(Class<?> tests) throws IllegalAccessException {
        Method[] all = tests.getDeclaredMethods();
        Arrays.sort(all, Comparator.comparing(Method::getName));
        int run = 0;
        for (Method test : all) {
            Edge edge = test.getAnnotation(Edge.class);
            if (edge != null) {
                runOne(test, edge.value());
                run++;
            } else {
                boolean helper = Modifier.isPublic(test.getModifiers()) || test.getParameterCount() > 0
                        || test.getReturnType() != void.class || test.isSynthetic();
                Due.holds(test.getName() + " is run", helper);
            }
        }
        System.out.println(run + " boundary cases of " + tests.getSimpleName());
        Due.end();
    }

    private static void runOne(Method test, String sentence) throws IllegalAccessException {
        Due.about(test.getName() + " [" + sentence + "]: ");
        int before = Due.looked();
        try {
            test.invoke(null);
        } catch (InvocationTargetException e) {
            Due.holds("nothing is thrown, but " + e.getCause(), false);
        }
        Due.holds("something was looked at", Due.looked() > before);
        Due.about("");
    }

    /** Numbers just outside first .. last, far outside, and such as a shift or a cast would take back in. */
    static int[] outside(int first, int last) {
        int[] near = {first - 1, last + 1, first - 2, last + 2};
        int[] far = {first + 32, last + 64, first + 256, last + 65536, first - 32, last - 64, last - 65536,
                MOST, LEAST, MOST - 1, LEAST + 1, 1 << 30, -(1 << 30)};
        return IntStream.concat(Arrays.stream(near), Arrays.stream(far))
                .filter(n -> n < first || n > last).toArray();
    }
}
