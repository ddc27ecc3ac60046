import java.lang.reflect.Constructor;
import java.lang.reflect.Field;
import java.lang.reflect.Method;
import java.util.Arrays;

/**
 * Two limits that no known run of calls reaches, so that they are tried at the classes inside: WAYS above 99999999 (the most
 * that a long search over pieces found are some 1.4 million) and more than 16 numbers in THE TRACE (an ask leaves 6 at most).
 */
public final class LimitTest {
    private static final Due DUE = new Due();

    public static void main(String[] args) throws ReflectiveOperationException {
        waysOfOneWindow();
        waysTogether();
        sixteenTraced();
        DUE.end();
    }

    private static Object made(String name) throws ReflectiveOperationException {
        Constructor<?> constructor = Class.forName("SpelledTones$" + name).getDeclaredConstructor();
        constructor.setAccessible(true);
        return constructor.newInstance();
    }

    private static Object field(Object of, String name) throws ReflectiveOperationException {
        Field field = of.getClass().getDeclaredField(name);
        field.setAccessible(true);
        return field.get(of);
    }

    private static void call(Object of, String name, int with) throws ReflectiveOperationException {
        Method method = of.getClass().getDeclaredMethod(name, int.class);
        method.setAccessible(true);
        method.invoke(of, with);
    }

    /** WAYS, where the windows of the first chord have these ways and all cost the same. */
    private static int waysOf(long... counts) throws ReflectiveOperationException {
        Object best = made("Best");
        Arrays.fill((int[]) field(best, "costs"), 7);
        System.arraycopy(counts, 0, (long[]) field(best, "counts"), 0, counts.length);
        call(best, "pick", 1);
        return (Integer) field(best, "ways");
    }

    private static void waysOfOneWindow() throws ReflectiveOperationException {
        DUE.says("WAYS: how many rows of WINDOWS have the least COST (99999999, if there are more)");
        DUE.is("fewer", waysOf(99999998L), 99999998);
        DUE.is("just as many", waysOf(99999999L), 99999999);
        DUE.is("one more", waysOf(100000000L), 99999999);
        DUE.is("more than an int holds", waysOf(1L << 32), 99999999);
        DUE.is("as many as there are rows of ten windows", waysOf(63403380965376L), 99999999);
    }

    private static void waysTogether() throws ReflectiveOperationException {
        DUE.says("WAYS .. (99999999, if there are more)");
        DUE.is("two that are fewer together", waysOf(50000000L, 49999998L), 99999998);
        DUE.is("two that are as many together", waysOf(50000000L, 49999999L), 99999999);
        DUE.is("two that are more together", waysOf(50000000L, 50000000L), 99999999);
        DUE.is("two beyond an int together", waysOf(Integer.MAX_VALUE, Integer.MAX_VALUE), 99999999);
    }

    private static void sixteenTraced() throws ReflectiveOperationException {
        DUE.says("each of which leaves its number in THE TRACE as it begins (the first 16)");
        Object asks = made("Asks");
        for (int i = 1; i <= 20; i++) {
            call(asks, "leave", 100 + i);
            DUE.is("so many of " + i, (Integer) field(asks, "traced"), Math.min(i, 16));
        }
        int[] bodies = (int[]) field(asks, "bodies");
        for (int i = 0; i < 16; i++) {
            DUE.is("number " + i, bodies[i], 101 + i);
        }
    }
}
