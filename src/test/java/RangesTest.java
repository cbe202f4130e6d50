import java.util.Arrays;
import java.util.NoSuchElementException;
import java.util.Set;

/**
 * Each range of the document, on both sides: the last value that is allowed is not refused as out
 * of range, the first one that is not is, and changes nothing. A range holds for an empty desk and
 * for a full one as well, where another exception, documented later, would apply too.
 */
public final class RangesTest {
    private static final Class<IllegalArgumentException> ARGUMENT = IllegalArgumentException.class;
    private static final Class<IndexOutOfBoundsException> INDEX = IndexOutOfBoundsException.class;
    private static final Set<String> LATER = Set.of(IllegalStateException.class.getName(),
            NoSuchElementException.class.getName());
    private static final int NO_END = Integer.MAX_VALUE;

    private static final int[] SOURCE = {0, 2};
    private static final int[] NUMBER = {1000, 99999999};
    private static final int[] PREFIX = {1, 99999};
    private static final int[] DAY = {0, 999};
    private static final int[] CARRIER = {0, 3};

    private interface Method {
        int call(Desk desk, int... a);
    }

    private static final Expect expect = new Expect("ranges");

    public static void main(String[] args) {
        look("an empty desk", new Desk());
        look("a desk in use", Scenes.inUse());
        look("a full desk", Scenes.full());
        expect.end();
    }

    private static void look(String scene, Desk desk) {
        records(scene, desk);
        rates(scene, desk);
        routes(scene, desk);
        claims(scene, desk);
    }

    private static void records(String scene, Desk desk) {
        ranges(scene + ": setBound", desk, (d, a) -> d.setBound(a[0]), new int[] {7},
                new int[] {0, 100});
        ranges(scene + ": record", desk, (d, a) -> d.record(a[0], a[1], a[2], a[3], a[4]),
                new int[] {1, 3, 5000, 70000, 8}, SOURCE, new int[] {0, 9999}, NUMBER,
                new int[] {0, 999999}, new int[] {0, 10000});
        // Also where the record is a double of what the desks in use have.
        ranges(scene + ": record, a double", desk,
                (d, a) -> d.record(a[0], a[1], a[2], a[3], a[4]),
                new int[] {0, 7, 4500, 1000, 30}, SOURCE, new int[] {0, 9999}, NUMBER,
                new int[] {0, 999999}, new int[] {0, 10000});
        ranges(scene + ": gaps", desk, (d, a) -> d.gaps(a[0]), new int[] {0}, SOURCE);
        ranges(scene + ": doubles", desk, (d, a) -> d.doubles(a[0]), new int[] {0}, SOURCE);
        callNumbers(scene + ": legs", desk, (d, a) -> d.legs(a[0]));
        callNumbers(scene + ": length", desk, (d, a) -> d.length(a[0]));
    }

    private static void rates(String scene, Desk desk) {
        ranges(scene + ": addRate", desk, (d, a) -> d.addRate(a[0], a[1], a[2], a[3], a[4], a[5]),
                new int[] {45, 3, 60, 6, 10, 5}, PREFIX, DAY, new int[] {0, 10000},
                new int[] {1, 60}, new int[] {0, 120}, new int[] {0, 1000});
        ranges(scene + ": rateFor", desk, (d, a) -> d.rateFor(a[0], a[1]),
                new int[] {40000, 0}, NUMBER, DAY);
        ranges(scene + ": rateFor, none", desk, (d, a) -> d.rateFor(a[0], a[1]),
                new int[] {30000, 0}, NUMBER, DAY);
        callNumbers(scene + ": charge", desk, (d, a) -> d.charge(a[0]));
        callNumbers(scene + ": booked", desk, (d, a) -> d.booked(a[0]));
        ranges(scene + ": total", desk, (d, a) -> d.total(a[0]), new int[] {4}, PREFIX);
    }

    private static void routes(String scene, Desk desk) {
        int[] price = {-1, 10000};
        ranges(scene + ": offer", desk, (d, a) -> d.offer(a[0], a[1], a[2]),
                new int[] {1, 77, 6}, CARRIER, PREFIX, price);
        ranges(scene + ": offer, in place of one", desk, (d, a) -> d.offer(a[0], a[1], a[2]),
                new int[] {0, 4, 6}, CARRIER, PREFIX, price);
        ranges(scene + ": offer, none any more", desk, (d, a) -> d.offer(a[0], a[1], a[2]),
                new int[] {0, 4, -1}, CARRIER, PREFIX, price);
        ranges(scene + ": offerFor", desk, (d, a) -> d.offerFor(a[0], a[1]),
                new int[] {0, 40000}, CARRIER, NUMBER);
        ranges(scene + ": offerFor, none", desk, (d, a) -> d.offerFor(a[0], a[1]),
                new int[] {0, 30000}, CARRIER, NUMBER);
        int[] margin = {0, 10000};
        int[] rank = {0, NO_END};
        ranges(scene + ": route", desk, (d, a) -> d.route(a[0], a[1], a[2], a[3]),
                new int[] {40000, 0, 5, 0}, NUMBER, DAY, margin, rank);
        ranges(scene + ": route, no rate", desk, (d, a) -> d.route(a[0], a[1], a[2], a[3]),
                new int[] {30000, 0, 5, 0}, NUMBER, DAY, margin, rank);
        ranges(scene + ": route, no carrier", desk, (d, a) -> d.route(a[0], a[1], a[2], a[3]),
                new int[] {40000, 0, 5, 4}, NUMBER, DAY, margin, rank);
    }

    private static void claims(String scene, Desk desk) {
        callNumbers(scene + ": claim", desk, (d, a) -> d.claim(a[0], 5));
        // That there is no such call is documented before the amount.
        wrong(scene + ": claim, no such call, an amount too small", desk, INDEX,
                (d, a) -> d.claim(a[0], a[1]), calls(desk), -1);
        wrong(scene + ": claim, no such call, an amount too great", desk, INDEX,
                (d, a) -> d.claim(a[0], a[1]), -1, 1000001);
        if (calls(desk) > 0) {
            ranges(scene + ": claim, the amount", desk, (d, a) -> d.claim(0, a[0]),
                    new int[] {5}, new int[] {0, 1000000});
        }
        ranges(scene + ": difference", desk, (d, a) -> d.difference(a[0]), new int[] {4}, PREFIX);
        ranges(scene + ": narrow", desk, (d, a) -> d.narrow(a[0]), new int[] {3},
                new int[] {1, 5});
    }

    /** Each argument at the ends of its range and behind them, the others as in common. */
    private static void ranges(String name, Desk desk, Method method, int[] common,
            int[]... ends) {
        expect.same(name + ": the arguments", common.length, ends.length);
        for (int i = 0; i < common.length; i++) {
            int least = ends[i][0];
            int greatest = ends[i][1];
            for (int right : new int[] {least, greatest}) {
                allowed(name, desk, method, with(common, i, right));
            }
            for (int wrong : new int[] {least - 1, Integer.MIN_VALUE}) {
                wrong(name, desk, ARGUMENT, method, with(common, i, wrong));
            }
            if (greatest != NO_END) {
                wrong(name, desk, ARGUMENT, method, with(common, i, greatest + 1));
                wrong(name, desk, ARGUMENT, method, with(common, i, Integer.MAX_VALUE));
            }
        }
        wrong(name + ", all of them", desk, ARGUMENT, method, all(common, Integer.MIN_VALUE));
    }

    /** The numbers of calls: from 0 to the last call that there is. */
    private static void callNumbers(String name, Desk desk, Method method) {
        int calls = calls(desk);
        if (calls > 0) {
            allowed(name, desk, method, 0);
            allowed(name, desk, method, calls - 1);
        }
        for (int wrong : new int[] {-1, calls, 60, Integer.MIN_VALUE, Integer.MAX_VALUE}) {
            wrong(name, desk, INDEX, method, wrong);
        }
    }

    /** It answers, or is refused by what is documented behind the range. */
    private static void allowed(String name, Desk desk, Method method, int... a) {
        Desk asked = desk.again();
        String got = Outcome.of(() -> method.call(asked, a));
        String due = got.matches("-?\\d+") || LATER.contains(got) ? got : "as in range";
        expect.look(name + Arrays.toString(a), due, got);
    }

    private static void wrong(String name, Desk desk, Class<? extends Exception> due,
            Method method, int... a) {
        Desk asked = desk.again();
        expect.refused(name + Arrays.toString(a), asked, due, () -> method.call(asked, a));
    }

    private static int[] with(int[] common, int place, int value) {
        int[] a = common.clone();
        a[place] = value;
        return a;
    }

    private static int[] all(int[] common, int value) {
        int[] a = common.clone();
        Arrays.fill(a, value);
        return a;
    }

    private static int calls(Desk desk) {
        return desk.again().calls();
    }
}
