import java.lang.reflect.InvocationTargetException;
import java.lang.reflect.Method;
import java.lang.reflect.Modifier;
import java.util.Arrays;
import java.util.Comparator;
import java.util.Random;

/** Calls with any numbers in any state: none throws, and one that is refused changes nothing. */
public final class AnyNumbersTest {
    private static final int RUNS = 12, CALLS = 1200;
    private static final int[] ODD = {0, 1, 2, 3, 5, 7, 8, 19, 20, 39, 40, 59, 60, 61, 255, 256, 300, 1799, 1800, 1850, 1900,
        1999, 2000, 9999, 10000, -1, -2, -30, -31, 1 << 20, 1 << 30, Integer.MAX_VALUE, Integer.MIN_VALUE};

    public static void main(String[] args) throws IllegalAccessException {
        Method[] calls = Arrays.stream(LifeList.class.getDeclaredMethods())
                .filter(method -> Modifier.isPublic(method.getModifiers()))
                .sorted(Comparator.comparing(Method::getName)).toArray(Method[]::new);
        for (int seed = 0; seed < RUNS; seed++) {
            run(calls, new Random(seed), seed % 2 == 0);
        }
        Checks.end();
    }

    private static void run(Method[] calls, Random random, boolean isFilled) throws IllegalAccessException {
        LifeList list = new LifeList();
        if (isFilled) {
            fill(list);
        }
        String before = digest(list);
        for (int i = 0; i < CALLS; i++) {
            Method method = calls[random.nextInt(calls.length)];
            Object[] numbers = Arrays.stream(method.getParameterTypes()).map(type -> draw(type, random)).toArray();
            String call = method.getName() + Arrays.toString(numbers);
            int answer;
            try {
                answer = (int) method.invoke(list, numbers);
            } catch (InvocationTargetException thrown) {
                Checks.yes(call + " threw " + thrown.getCause(), false);
                return;
            }
            boolean isRefused = answer < 0 && answer > -20;
            String after = digest(list);
            Checks.yes(call + " was refused and changed something", !isRefused || before.equals(after));
            before = after;
        }
    }

    private static Object draw(Class<?> type, Random random) {
        if (type == boolean.class) {
            return random.nextBoolean();
        }
        if (type == long.class) {
            return random.nextBoolean() ? 0x70332c322f333b76L >>> 8 * random.nextInt(8) : random.nextLong();
        }
        int odd = ODD[random.nextInt(ODD.length)];
        return random.nextInt(3) == 0 ? random.nextInt(6) : random.nextInt(10) == 0 ? random.nextInt() : odd;
    }

    private static void fill(LifeList list) {
        for (int i = 0; i < 40; i++) {
            if (i < 10) {
                list.work(i % 2 * 2, 300 + i, 200 + i, 1 + i, 1850, 1880);
            } else {
                list.print(i - 10, true, 300 - i, 200 - i, 1 + i, 1850, 1880);
            }
        }
        for (int i = 0; i < 58; i++) {
            list.holding(i % 40, i % 20, 1850 + i, 1860 + i, 1870 + i, 1880 + i);
        }
        for (int i = 0; i < 49; i++) {
            list.mention(i % 3, i / 9, 1890, 0, 0, 0, false, 1 + i, -1);
        }
        for (int i = 0; i < 19; i++) {
            list.clue(i, 19 - i, i % 5);
        }
        for (int i = 0; i < 58; i++) {
            list.vote(i % 40, i, 15, 48, i % 7 == 0);
        }
        list.edition();
        list.sheet(1, 0, 60);
        list.sheet(2, 1, 12);
    }

    /** All that calls tell without changing anything, but for the tape and what stands on sheets. */
    private static String digest(LifeList x) {
        StringBuilder text = new StringBuilder();
        for (int i = 0; i < 8; i++) {
            text.append(x.count(i)).append(' ');
        }
        for (int work = 0; work < 40; work++) {
            for (int what = 0; what < 6; what++) {
                text.append(x.told(work, what)).append(' ').append(x.rule(what, what % 3)).append(' ');
            }
            for (int year = 1800; year < 2000; year += 33) {
                text.append(x.then(work, year, 0)).append(' ').append(x.then(work, year, 1)).append(' ');
                text.append(x.may(work, year)).append(' ').append(x.owner(work, year)).append(' ');
            }
            text.append(x.turned(work)).append(' ').append(x.number(work)).append(' ').append(x.made(work, 0)).append(' ');
            text.append(x.twice(work)).append(' ').append(x.state(work, 9999, x.count(4))).append(' ');
        }
        for (int mention = 0; mention < 50; mention++) {
            text.append(x.rivals(mention)).append(' ');
        }
        for (int i = 0; i < 60; i++) {
            text.append(x.votes(i, 1)).append(' ').append(x.votes(i, 3)).append(' ');
        }
        return text.append(x.asides()).append(' ').append(x.sum(0)).toString();
    }
}
