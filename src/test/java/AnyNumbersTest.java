import java.lang.reflect.InvocationTargetException;
import java.lang.reflect.Method;
import java.lang.reflect.Modifier;
import java.util.Arrays;
import java.util.Comparator;
import java.util.Random;

/**
 * Calls with any numbers in any state: none throws, and those that are refused change nothing, so that the
 * others answer the same without them.
 */
public final class AnyNumbersTest {
    private static final int RUNS = 1200;
    private static final int[] ODD = {0, 1, 2, 3, 5, 7, 8, 19, 20, 39, 40, 59, 60, 61, 255, 256, 300, 1799, 1800, 1850, 1900,
        1999, 2000, 9999, 10000, -1, -2, -30, -31, 1 << 20, 1 << 30, Integer.MAX_VALUE, Integer.MIN_VALUE};

    private final Random random;
    private final Edges.Maker maker;
    /** Few where many are made to begin with: an object is good for 512, those that look at it in the end too. */
    private final int length;

    private AnyNumbersTest(int seed) {
        random = new Random(seed);
        maker = seed % 3 == 0 ? LifeList::new : seed % 3 == 1 ? States::some : States::all;
        length = seed % 3 == 2 ? 40 : 250;
    }

    /** A call with its numbers. */
    private record Step(Method method, Object[] numbers) {
        int on(LifeList list) throws IllegalAccessException, InvocationTargetException {
            return (int) method.invoke(list, numbers);
        }

        String text() {
            return method.getName() + Arrays.toString(numbers);
        }
    }

    public static void main(String[] args) throws IllegalAccessException {
        Method[] calls = Arrays.stream(LifeList.class.getDeclaredMethods())
                .filter(method -> Modifier.isPublic(method.getModifiers()))
                .sorted(Comparator.comparing(Method::getName)).toArray(Method[]::new);
        for (int seed = 0; seed < RUNS; seed++) {
            new AnyNumbersTest(seed).run(calls, seed);
        }
        Checks.end();
    }

    private void run(Method[] calls, int seed) throws IllegalAccessException {
        LifeList tried = maker.make();
        LifeList plain = maker.make();
        for (int i = 0; i < length; i++) {
            Step step = draw(calls[random.nextInt(calls.length)]);
            try {
                int answer = step.on(tried);
                if (answer >= 0 || answer <= -20) {
                    Checks.due("seed " + seed + " " + step.text() + " without those refused", step.on(plain), answer);
                }
            } catch (InvocationTargetException thrown) {
                Checks.yes("seed " + seed + " " + step.text() + " threw " + thrown.getCause(), false);
                return;
            }
        }
        int part = seed / 3 % Probe.PARTS;
        Checks.yes("seed " + seed + ": what was refused changed part " + part,
                Probe.tell(tried, part).equals(Probe.tell(plain, part)));
    }

    private Step draw(Method method) {
        return new Step(method, Arrays.stream(method.getParameterTypes()).map(this::number).toArray());
    }

    private Object number(Class<?> type) {
        if (type == boolean.class) {
            return random.nextBoolean();
        }
        if (type == long.class) {
            return random.nextBoolean() ? 0x70332c322f333b76L >>> 8 * random.nextInt(8) : random.nextLong();
        }
        int odd = ODD[random.nextInt(ODD.length)];
        return random.nextInt(3) == 0 ? random.nextInt(6) : random.nextInt(10) == 0 ? random.nextInt() : odd;
    }
}
