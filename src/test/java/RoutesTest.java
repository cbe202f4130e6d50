import java.util.Arrays;
import java.util.NoSuchElementException;

/** Promises 17 to 19: routes. */
public final class RoutesTest {
    private static final Class<IllegalArgumentException> ARGUMENT = IllegalArgumentException.class;
    private static final Class<IllegalStateException> STATE = IllegalStateException.class;
    private static final Class<NoSuchElementException> NO_SUCH = NoSuchElementException.class;

    private static final Expect expect = new Expect("routes");

    public static void main(String[] args) {
        offer();
        offerOutOfRange();
        tenOffers();
        offerFor();
        offerForOutOfRange();
        routeInOrder();
        routeWithinTheMargin();
        routeAtTheLimit();
        routeOnItsDay();
        routeOutOfRange();
        expect.end();
    }

    /** Promise 17. */
    private static void offer() {
        Desk desk = new Desk();
        expect.same("the first price", -1, desk.offer(2, 45, 10000));
        expect.same("the same carrier again", 10000, desk.offer(2, 45, 0));
        expect.same("a price of 0", 0, desk.offer(2, 45, 7));
        expect.same("another carrier", -1, desk.offer(3, 45, 9));
        expect.same("another prefix", -1, desk.offer(2, 4, 9));
        expect.same("the price is set", 7, desk.offerFor(2, 4500));
        expect.same("none any more", 7, desk.offer(2, 45, -1));
        expect.same("none is none", -1, desk.offer(2, 45, -1));
        expect.same("the shorter prefix is left", 9, desk.offerFor(2, 4500));
        expect.same("a prefix never offered", -1, desk.offer(2, 99999, -1));
        expect.same("offered again", -1, desk.offer(2, 45, 3));
        expect.same("the greatest prefix", -1, desk.offer(0, 99999, 1));
        expect.same("the least prefix", -1, desk.offer(0, 1, 1));
    }

    private static void offerOutOfRange() {
        Desk desk = new Desk();
        desk.offer(0, 4, 5);
        int[][] wrong = {
            {-1, 4, 0}, {4, 4, 0}, {Integer.MIN_VALUE, 4, 0}, {Integer.MAX_VALUE, 4, 0},
            {0, 0, 0}, {0, 100000, 0}, {0, -4, 0}, {0, 0, -1},
            {0, 4, -2}, {0, 4, 10001}, {0, 4, Integer.MIN_VALUE}, {0, 4, Integer.MAX_VALUE},
        };
        for (int[] w : wrong) {
            expect.refused("offer" + Arrays.toString(w), desk, ARGUMENT,
                    () -> desk.offer(w[0], w[1], w[2]));
        }
    }

    private static void tenOffers() {
        Desk desk = new Desk();
        for (int prefix = 11; prefix <= 20; prefix++) {
            expect.same("an offer", -1, desk.offer(1, prefix, prefix));
        }
        expect.refused("the 11th offer", desk, STATE, () -> desk.offer(1, 45, 0));
        expect.refused("a wrong 11th offer", desk, ARGUMENT, () -> desk.offer(1, 45, 10001));
        expect.same("none needs no room", -1, desk.offer(1, 45, -1));
        expect.same("an old one needs no room", 20, desk.offer(1, 20, 5));
        expect.same("another carrier has room", -1, desk.offer(0, 45, 0));
        expect.same("one is given up", 15, desk.offer(1, 15, -1));
        expect.same("a new one in its place", -1, desk.offer(1, 45, 6));
        expect.refused("the 11th again", desk, STATE, () -> desk.offer(1, 15, 0));
        expect.same("the new one holds", 6, desk.offerFor(1, 4500));
        expect.same("the others hold", 14, desk.offerFor(1, 1400));
        expect.refused("the old one does not", desk, NO_SUCH, () -> desk.offerFor(1, 1500));
    }

    /** Promise 18. */
    private static void offerFor() {
        Desk desk = new Desk();
        desk.offer(0, 12345, 50);
        desk.offer(0, 1, 10);
        desk.offer(0, 123, 30);
        desk.offer(0, 2, 0);
        expect.same("five digits", 50, desk.offerFor(0, 12345678));
        expect.same("all its digits", 50, desk.offerFor(0, 12345));
        expect.same("a number shorter than the prefix", 30, desk.offerFor(0, 1234));
        expect.same("three digits", 30, desk.offerFor(0, 12399999));
        expect.same("one digit", 10, desk.offerFor(0, 1000));
        expect.same("a price of 0", 0, desk.offerFor(0, 2000));
        expect.refused("nothing fits", desk, NO_SUCH, () -> desk.offerFor(0, 3123));
        expect.refused("another carrier", desk, NO_SUCH, () -> desk.offerFor(1, 12345));
    }

    private static void offerForOutOfRange() {
        Desk desk = new Desk();
        desk.offer(0, 9, 50);
        int[][] wrong = {
            {-1, 9000}, {4, 9000}, {Integer.MIN_VALUE, 9000}, {Integer.MAX_VALUE, 9000},
            {0, 999}, {0, 100000000}, {0, -9000}, {0, 0}, {1, 999},
        };
        for (int[] w : wrong) {
            expect.refused("offerFor" + Arrays.toString(w), desk, ARGUMENT,
                    () -> desk.offerFor(w[0], w[1]));
        }
    }

    /** Promise 19. */
    private static void routeInOrder() {
        Desk desk = new Desk();
        desk.addRate(4, 0, 100, 1, 0, 0);
        desk.offer(3, 45, 10);
        desk.offer(1, 4, 30);
        desk.offer(0, 45, 30);
        desk.offer(2, 450, 30);
        due(desk, 0, 3, 0, 1, 2);
        desk.offer(3, 45, 30);
        due(desk, 0, 0, 1, 2, 3);
        desk.offer(0, 45, 100);
        due(desk, 0, 1, 2, 3, 0);
        desk.offer(0, 45, 101);
        due(desk, 0, 1, 2, 3);
        desk.offer(1, 4, -1);
        due(desk, 0, 2, 3);
        desk.offer(2, 450, 31);
        due(desk, 0, 3, 2);
        desk.offer(2, 450, -1);
        desk.offer(3, 45, -1);
        due(desk, 0);
    }

    private static void routeWithinTheMargin() {
        Desk desk = new Desk();
        desk.addRate(4, 0, 100, 1, 0, 50);
        desk.offer(0, 4, 80);
        desk.offer(1, 4, 70);
        desk.offer(2, 4, 60);
        due(desk, 20, 2, 1, 0);
        due(desk, 21, 2, 1);
        due(desk, 31, 2);
        due(desk, 41);
        due(desk, 101);
        due(desk, 10000);
        desk.offer(3, 4, 0);
        due(desk, 100, 3);
        due(desk, 101);
    }

    /** "at most the price of the rate for it, less the margin": the last offer within it or not. */
    private static void routeAtTheLimit() {
        // price, margin, offer, 1 if it is within
        int[][] due = {
            {0, 0, 0, 1}, {0, 0, 1, 0}, {0, 1, 0, 0}, {10000, 0, 10000, 1}, {10000, 1, 9999, 1},
            {10000, 1, 10000, 0}, {10000, 10000, 0, 1}, {10000, 10000, 1, 0}, {9999, 10000, 0, 0},
            {0, 10000, 0, 0}, {50, 20, 30, 1}, {50, 20, 31, 0},
        };
        for (int[] d : due) {
            Desk desk = new Desk();
            desk.addRate(4, 0, d[0], 60, 120, 1000);
            desk.offer(3, 4, d[2]);
            String what = "route" + Arrays.toString(d);
            expect.look(what, d[3] == 1 ? "3" : NO_SUCH.getName(),
                    Outcome.of(() -> desk.route(4500, 0, d[1], 0)));
            expect.refused(what + ", the second", desk, NO_SUCH,
                    () -> desk.route(4500, 0, d[1], 1));
        }
    }

    private static void routeOnItsDay() {
        Desk desk = new Desk();
        desk.offer(0, 4, 50);
        desk.offer(1, 4, 10);
        expect.refused("no rate", desk, NO_SUCH, () -> desk.route(4500, 5, 0, 0));
        desk.addRate(4, 5, 50, 1, 0, 0);
        desk.addRate(450, 6, 49, 1, 0, 0);
        expect.refused("no rate yet", desk, NO_SUCH, () -> desk.route(4500, 4, 0, 0));
        expect.same("the rate of the day", 0, desk.route(4500, 5, 0, 1));
        expect.refused("the longer prefix", desk, NO_SUCH, () -> desk.route(4500, 6, 0, 1));
        expect.same("the cheaper carrier", 1, desk.route(4500, 6, 0, 0));
        expect.same("another number", 0, desk.route(4600, 999, 0, 1));
        expect.refused("no offer fits", desk, NO_SUCH, () -> desk.route(5500, 5, 0, 0));
    }

    private static void routeOutOfRange() {
        Desk desk = new Desk();
        desk.addRate(9, 0, 10000, 1, 0, 0);
        desk.offer(0, 9, 0);
        expect.same("the greatest margin", 0, desk.route(99999999, 999, 10000, 0));
        int[][] wrong = {
            {999, 0, 0, 0}, {100000000, 0, 0, 0}, {-9000, 0, 0, 0},
            {9000, -1, 0, 0}, {9000, 1000, 0, 0},
            {9000, 0, -1, 0}, {9000, 0, 10001, 0}, {9000, 0, Integer.MIN_VALUE, 0},
            {9000, 0, 0, -1}, {9000, 0, 0, Integer.MIN_VALUE},
            // No rate fits 1000: the parameter is told first.
            {1000, 0, 0, -1}, {1000, 1000, 0, 0},
        };
        for (int[] w : wrong) {
            expect.refused("route" + Arrays.toString(w), desk, ARGUMENT,
                    () -> desk.route(w[0], w[1], w[2], w[3]));
        }
        expect.refused("a great rank", desk, NO_SUCH,
                () -> desk.route(9000, 0, 0, Integer.MAX_VALUE));
    }

    /** The carriers for 4500 on the day 0, and none behind them. */
    private static void due(Desk desk, int margin, int... carriers) {
        for (int rank = 0; rank < carriers.length; rank++) {
            expect.same("rank " + rank + " of " + Arrays.toString(carriers), carriers[rank],
                    desk.route(4500, 0, margin, rank));
        }
        expect.refused("the rank behind " + Arrays.toString(carriers), desk, NO_SUCH,
                () -> desk.route(4500, 0, margin, carriers.length));
    }
}
