import java.lang.reflect.InvocationTargetException;
import java.lang.reflect.Method;
import java.util.Arrays;
import java.util.Random;

/**
 * Runs of 512 calls, drawn with fixed seeds, on the class and on the model: every answer, and the
 * class of every exception, must be the same.
 */
public final class RandomRunsTest {
    private static final int RUNS = 800;
    private static final int CALLS = 512;
    private static final String[] NAMES = {
        "setBound", "record", "gaps", "doubles", "calls", "legs", "length", "addRate", "rateFor",
        "charge", "book", "booked", "correct", "corrections", "total", "offer", "offerFor",
        "route", "claim", "difference", "narrow", "worst",
    };
    private static final Method[] DESK = methodsOf(CarrierDesk.class);
    private static final Method[] MODEL = methodsOf(ModelDesk.class);
    private static final String[] FAVOURITES = {"record", "addRate", "offer"};
    private static final int[] EXTREME = {
        Integer.MIN_VALUE, -1000, -2, -1, 0, 1, 2, 3, 4, 5, 6, 10, 60, 61, 100, 101, 120, 121, 999,
        1000, 1001, 9999, 10000, 10001, 99999, 100000, 999999, 1000000, 1000001, 99999999,
        100000000, Integer.MAX_VALUE,
    };
    private static final int[] NUMBERS = {
        1000, 1001, 1200, 1234, 9999, 10000, 12000, 12345, 12346, 99999, 120000, 123456, 123457,
        1234567, 12345678, 12345679, 45000, 45001, 450012, 99999999, 20304050,
    };
    private static final int[] PREFIXES = {
        1, 12, 123, 1234, 12345, 4, 45, 450, 4500, 45001, 9, 99, 999, 9999, 99999, 10, 100, 1000,
        10000, 2, 20, 20304,
    };

    private final Random random;
    private final boolean wild;
    private final int near;
    private final int favourite;

    private RandomRunsTest(long seed) {
        random = new Random(seed);
        wild = seed % 4 == 0;
        near = new int[] {3, 12, 110, 2500}[(int) (seed / 4 % 4)];
        favourite = Arrays.asList(NAMES).indexOf(FAVOURITES[(int) (seed % 3)]);
    }

    public static void main(String[] args) {
        Expect expect = new Expect("random runs");
        for (int seed = 0; seed < RUNS; seed++) {
            new RandomRunsTest(seed).run(expect, seed);
        }
        expect.end();
    }

    private void run(Expect expect, int seed) {
        CarrierDesk desk = new CarrierDesk();
        ModelDesk model = new ModelDesk();
        for (int i = 0; i < CALLS; i++) {
            // A third of the calls are of one kind, so that every limit is met in some run.
            int kind = random.nextInt(3) == 0 ? favourite : random.nextInt(NAMES.length);
            int[] arguments = arguments(kind);
            expect.look("seed " + seed + " call " + i + " " + NAMES[kind]
                    + Arrays.toString(arguments), answer(model, MODEL[kind], arguments),
                    answer(desk, DESK[kind], arguments));
        }
    }

    private int[] arguments(int kind) {
        int[] a = fit(kind);
        if (random.nextInt(wild ? 3 : 40) == 0 && a.length > 0) {
            a[random.nextInt(a.length)] = EXTREME[random.nextInt(EXTREME.length)];
        }
        return a;
    }

    /** Arguments that are mostly in range. */
    private int[] fit(int kind) {
        switch (NAMES[kind]) {
            case "setBound":
                return new int[] {random.nextBoolean() ? 5 : upTo(100)};
            case "record":
                return new int[] {upTo(2), upTo(random.nextBoolean() ? 9999 : 150), number(),
                    near < 200 ? 1990 + upTo(near) : upTo(near * 4), upTo(near)};
            case "gaps": case "doubles":
                return new int[] {upTo(2)};
            case "legs": case "length": case "charge": case "booked":
                return new int[] {upTo(61) - 1};
            case "addRate":
                return new int[] {prefix(), day(), price(), 1 + upTo(59), upTo(120), upTo(1000)};
            case "rateFor":
                return new int[] {number(), day()};
            case "total": case "difference":
                return new int[] {prefix()};
            case "offer":
                return new int[] {upTo(3), prefix(), upTo(3) == 0 ? -1 : price()};
            case "offerFor":
                return new int[] {upTo(3), number()};
            case "route":
                return new int[] {number(), day(), upTo(2), upTo(4)};
            case "claim":
                return new int[] {upTo(20), upTo(2000)};
            case "narrow":
                return new int[] {1 + upTo(4)};
            default:
                return new int[0];
        }
    }

    private int upTo(int greatest) {
        return random.nextInt(greatest + 1);
    }

    private int number() {
        return NUMBERS[upTo(NUMBERS.length - 1)];
    }

    private int prefix() {
        return PREFIXES[upTo(PREFIXES.length - 1)];
    }

    private int day() {
        return upTo(3) == 0 ? upTo(999) : upTo(4);
    }

    private int price() {
        return upTo(3) == 0 ? upTo(10000) : 1 + upTo(6);
    }

    private static Method[] methodsOf(Class<?> desk) {
        Method[] found = new Method[NAMES.length];
        for (Method method : desk.getDeclaredMethods()) {
            int kind = Arrays.asList(NAMES).indexOf(method.getName());
            if (kind >= 0) {
                found[kind] = method;
            }
        }
        return found;
    }

    private static String answer(Object desk, Method method, int[] arguments) {
        try {
            return method.invoke(desk, Arrays.stream(arguments).boxed().toArray()).toString();
        } catch (InvocationTargetException e) {
            return e.getCause().getClass().getName();
        } catch (IllegalAccessException e) {
            return e.toString();
        }
    }
}
