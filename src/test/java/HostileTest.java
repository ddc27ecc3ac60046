import java.lang.reflect.InvocationTargetException;
import java.lang.reflect.Method;
import java.lang.reflect.Modifier;
import java.util.Arrays;
import java.util.Random;

/** Any arguments in any state: no call throws, all end, the same calls give the same answers. */
public final class HostileTest {
    private static final int[] EDGES = {Integer.MIN_VALUE, Integer.MIN_VALUE + 1, -1000000, -256, -41, -16, -15, -7, -6,
        -2, -1, 0, 1, 2, 3, 4, 5, 6, 7, 8, 9, 10, 11, 12, 14, 15, 19, 20, 21, 39, 40, 41, 99, 107, 130, 255, 256, 999999,
        1000000, Integer.MAX_VALUE - 1, Integer.MAX_VALUE};
    private static final String TEXT = "k9;c2,6,9;r1,7;b;h4,10;f;l0,3,8;b;f;o1,6;c11;r6,8;";
    private static int wrong = 0;

    public static void main(String[] args) throws IllegalAccessException {
        Method[] calls = Arrays.stream(SpelledTones.class.getDeclaredMethods())
            .filter(m -> Modifier.isPublic(m.getModifiers())).sorted((a, b) -> a.getName().compareTo(b.getName()))
            .toArray(Method[]::new);
        for (int run = 0; run < 400 && wrong == 0; run++) {
            int[] once = answers(run, calls);
            int[] twice = answers(run, calls);
            if (!Arrays.equals(once, twice)) {
                wrong++;
                System.out.println("run " + run + " answered two ways");
            }
        }
        System.out.println(wrong == 0 ? "nothing was thrown" : "something was thrown, or answered two ways");
        if (wrong != 0) {
            System.exit(1);
        }
    }

    private static int[] answers(int run, Method[] calls) throws IllegalAccessException {
        Random random = new Random(run);
        SpelledTones x = new SpelledTones();
        // More calls than an object is made for: what they answer is free, that they end is not.
        int[] answers = new int[700];
        for (int i = 0; i < answers.length && wrong == 0; i++) {
            if (run % 2 == 1 && i % 100 == 50) {
                feedAll(x, random);
            }
            Method call = calls[random.nextInt(calls.length)];
            Object[] with = new Object[call.getParameterCount()];
            for (int p = 0; p < with.length; p++) {
                boolean small = random.nextInt(3) != 0;
                with[p] = small ? random.nextInt(9) : EDGES[random.nextInt(EDGES.length)];
            }
            answers[i] = answer(x, call, with);
        }
        return answers;
    }

    private static void feedAll(SpelledTones x, Random random) {
        x.piece();
        int end = random.nextInt(4) == 0 ? random.nextInt(TEXT.length()) : TEXT.length();
        for (char c : TEXT.substring(0, end).toCharArray()) {
            x.feed(c);
        }
        x.piece();
    }

    private static int answer(SpelledTones x, Method call, Object[] with) throws IllegalAccessException {
        try {
            return (Integer) call.invoke(x, with);
        } catch (InvocationTargetException e) {
            wrong++;
            System.out.println(call.getName() + Arrays.toString(with) + " threw " + e.getCause());
            return 0;
        }
    }
}
