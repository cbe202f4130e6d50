import java.util.Arrays;
import java.util.NoSuchElementException;

/** Promises 9 to 16: rates and charges. */
public final class RatesTest {
    private static final Class<IllegalArgumentException> ARGUMENT = IllegalArgumentException.class;
    private static final Class<IllegalStateException> STATE = IllegalStateException.class;
    private static final Class<IndexOutOfBoundsException> INDEX = IndexOutOfBoundsException.class;
    private static final Class<NoSuchElementException> NO_SUCH = NoSuchElementException.class;

    private static final Expect expect = new Expect("rates");

    public static void main(String[] args) {
        addRateOutOfRange();
        thirtyRates();
        longestPrefix();
        latestDay();
        rateForOutOfRange();
        chargeRoundsUp();
        chargeAtItsEdges();
        chargeOnTheDayOfTheFirstLeg();
        chargeRefused();
        book();
        bookedRefused();
        correct();
        correctionsAreCountedEach();
        total();
        expect.end();
    }

    /** Promise 9. */
    private static void addRateOutOfRange() {
        Desk desk = new Desk();
        expect.same("the least rate", 0, desk.addRate(1, 0, 0, 1, 0, 0));
        expect.same("the greatest rate", 1, desk.addRate(99999, 999, 10000, 60, 120, 1000));
        int[][] wrong = {
            {0, 0, 0, 1, 0, 0}, {100000, 0, 0, 1, 0, 0}, {-1, 0, 0, 1, 0, 0},
            {1, -1, 0, 1, 0, 0}, {1, 1000, 0, 1, 0, 0},
            {1, 0, -1, 1, 0, 0}, {1, 0, 10001, 1, 0, 0},
            {1, 0, 0, 0, 0, 0}, {1, 0, 0, 61, 0, 0}, {1, 0, 0, -1, 0, 0},
            {1, 0, 0, 1, -1, 0}, {1, 0, 0, 1, 121, 0},
            {1, 0, 0, 1, 0, -1}, {1, 0, 0, 1, 0, 1001},
            {Integer.MIN_VALUE, 0, 0, 1, 0, 0}, {1, 0, 0, Integer.MIN_VALUE, 0, 0},
        };
        for (int[] w : wrong) {
            expect.refused("addRate" + Arrays.toString(w), desk, ARGUMENT,
                    () -> desk.addRate(w[0], w[1], w[2], w[3], w[4], w[5]));
        }
        expect.same("the number behind the wrong ones", 2, desk.addRate(1, 0, 0, 1, 0, 0));
    }

    private static void thirtyRates() {
        Desk desk = new Desk();
        for (int i = 0; i < 30; i++) {
            expect.same("a rate", i, desk.addRate(4, 0, i, 1, 0, 0));
        }
        expect.refused("the 31st rate", desk, STATE, () -> desk.addRate(4, 0, 0, 1, 0, 0));
        expect.refused("a wrong 31st rate", desk, ARGUMENT, () -> desk.addRate(0, 0, 0, 1, 0, 0));
        expect.same("the last one holds", 29, desk.rateFor(4500, 0));
    }

    /** Promise 10. */
    private static void longestPrefix() {
        Desk desk = new Desk();
        desk.addRate(12345, 3, 0, 1, 0, 0);
        desk.addRate(1, 1, 0, 1, 0, 0);
        desk.addRate(123, 2, 0, 1, 0, 0);
        desk.addRate(23, 0, 0, 1, 0, 0);
        desk.addRate(9, 0, 0, 1, 0, 0);
        expect.refused("no rate yet", desk, NO_SUCH, () -> desk.rateFor(12345678, 0));
        expect.same("one digit", 1, desk.rateFor(12345678, 1));
        expect.same("three digits", 2, desk.rateFor(12345678, 2));
        expect.same("five digits", 0, desk.rateFor(12345678, 3));
        expect.same("five digits, much later", 0, desk.rateFor(12345678, 999));
        expect.same("all its digits", 0, desk.rateFor(12345, 3));
        expect.same("a number shorter than the prefix", 2, desk.rateFor(1234, 3));
        expect.same("the fifth digit differs", 2, desk.rateFor(12344, 3));
        expect.same("the third digit differs", 1, desk.rateFor(12999999, 3));
        expect.same("23 begins it", 3, desk.rateFor(23000, 0));
        expect.same("9 begins it", 4, desk.rateFor(99999999, 0));
        expect.refused("nothing fits", desk, NO_SUCH, () -> desk.rateFor(31231, 999));
    }

    private static void latestDay() {
        Desk desk = new Desk();
        desk.addRate(45, 10, 0, 1, 0, 0);
        desk.addRate(45, 5, 0, 1, 0, 0);
        desk.addRate(45, 10, 0, 1, 0, 0);
        desk.addRate(45, 7, 0, 1, 0, 0);
        desk.addRate(4, 999, 0, 1, 0, 0);
        desk.addRate(45, 999, 0, 1, 0, 0);
        expect.refused("before all", desk, NO_SUCH, () -> desk.rateFor(4500, 4));
        expect.same("the first day", 1, desk.rateFor(4500, 5));
        expect.same("the day after", 1, desk.rateFor(4500, 6));
        expect.same("a later rate", 3, desk.rateFor(4500, 9));
        expect.same("of the same day the last added", 2, desk.rateFor(4500, 10));
        expect.same("still in force", 2, desk.rateFor(4500, 998));
        expect.same("the longer prefix on the last day", 5, desk.rateFor(4500, 999));
        expect.same("the shorter prefix on the last day", 4, desk.rateFor(4600, 999));
    }

    private static void rateForOutOfRange() {
        Desk desk = new Desk();
        desk.addRate(9, 0, 0, 1, 0, 0);
        int[][] wrong = {
            {999, 0}, {100000000, 0}, {9, 0}, {-9000, 0}, {Integer.MIN_VALUE, 0},
            {9000, -1}, {9000, 1000}, {9000, Integer.MAX_VALUE}, {1000, 1000},
        };
        for (int[] w : wrong) {
            expect.refused("rateFor" + Arrays.toString(w), desk, ARGUMENT,
                    () -> desk.rateFor(w[0], w[1]));
        }
    }

    /** Promise 11. */
    private static void chargeRoundsUp() {
        // price, step, least, fee, seconds, due
        int[][] due = {
            {60, 1, 0, 0, 0, 0}, {60, 1, 0, 0, 1, 1}, {60, 1, 0, 7, 61, 68},
            {1, 1, 0, 0, 1, 1}, {1, 1, 0, 0, 60, 1}, {1, 1, 0, 0, 61, 2},
            {60, 60, 0, 0, 1, 60}, {60, 60, 0, 0, 60, 60}, {60, 60, 0, 0, 61, 120},
            {60, 7, 0, 0, 14, 14}, {60, 7, 0, 0, 15, 21}, {60, 7, 20, 0, 14, 20},
            {60, 7, 20, 0, 15, 21}, {60, 7, 20, 0, 0, 20}, {60, 60, 61, 0, 1, 61},
            {100, 1, 0, 3, 1, 5}, {0, 60, 120, 9, 500, 9}, {10, 7, 120, 0, 600, 101},
        };
        for (int[] d : due) {
            Desk desk = new Desk();
            desk.addRate(4, 0, d[0], d[1], d[2], d[3]);
            desk.record(0, 0, 4500, 0, d[4]);
            expect.same("charge" + Arrays.toString(d), d[5], desk.charge(0));
        }
    }

    private static void chargeAtItsEdges() {
        Desk desk = new Desk();
        desk.addRate(9, 0, 10000, 60, 120, 1000);
        desk.record(0, 0, 99999999, 999999, 10000);
        // 10000 seconds are 167 steps of 60.
        expect.same("the greatest charge", 1671000, desk.charge(0));
        Desk steps = new Desk();
        steps.addRate(9, 999, 10000, 59, 0, 1000);
        steps.record(0, 0, 99999999, 999000, 10000);
        expect.same("170 steps of 59", 1000 + 1671667, steps.charge(0));
    }

    private static void chargeOnTheDayOfTheFirstLeg() {
        Desk desk = new Desk();
        desk.addRate(4, 0, 60, 1, 0, 0);
        desk.addRate(4, 2, 120, 1, 0, 0);
        desk.record(0, 0, 4500, 1999, 60);
        desk.record(1, 0, 4500, 2000, 62);
        desk.record(0, 1, 4600, 2000, 60);
        desk.record(1, 1, 4600, 1999, 62);
        expect.same("the day before", 62, desk.charge(0));
        expect.same("the day itself", 124, desk.charge(1));
        desk.addRate(450, 1, 6, 1, 0, 0);
        expect.same("a longer prefix", 7, desk.charge(0));
    }

    private static void chargeRefused() {
        Desk desk = new Desk();
        desk.record(0, 0, 4500, 1999, 60);
        desk.addRate(5, 0, 60, 1, 0, 0);
        desk.addRate(4, 2, 60, 1, 0, 0);
        expect.refused("no rate on its day", desk, NO_SUCH, () -> desk.charge(0));
        for (int wrong : new int[] {-1, 1, 60, Integer.MIN_VALUE, Integer.MAX_VALUE}) {
            expect.refused("charge(" + wrong + ")", desk, INDEX, () -> desk.charge(wrong));
        }
    }

    /** Promises 12 and 13. */
    private static void book() {
        Desk desk = new Desk();
        desk.record(0, 0, 4500, 0, 60);
        desk.record(0, 1, 5500, 0, 60);
        expect.same("without rates", 0, desk.book());
        desk.addRate(4, 0, 60, 1, 0, 0);
        expect.same("the one with a rate", 1, desk.book());
        expect.same("booked", 60, desk.booked(0));
        expect.refused("the one without", desk, NO_SUCH, () -> desk.booked(1));
        expect.same("once only", 0, desk.book());
        desk.addRate(4, 0, 120, 1, 0, 0);
        desk.addRate(5, 0, 0, 1, 0, 0);
        desk.record(1, 0, 4500, 0, 65);
        expect.same("the other one, for nothing", 1, desk.book());
        expect.same("booked at 0", 0, desk.booked(1));
        expect.same("as things were then", 60, desk.booked(0));
        expect.same("as things are", 130, desk.charge(0));
        expect.same("a booking of 0 is one", 0, desk.book());
    }

    private static void bookedRefused() {
        Desk desk = new Desk();
        desk.addRate(4, 0, 60, 1, 0, 0);
        desk.record(0, 0, 4500, 0, 60);
        expect.refused("not booked yet", desk, NO_SUCH, () -> desk.booked(0));
        for (int wrong : new int[] {-1, 1, 60, Integer.MIN_VALUE, Integer.MAX_VALUE}) {
            expect.refused("booked(" + wrong + ")", desk, INDEX, () -> desk.booked(wrong));
        }
    }

    /** Promises 14 and 15. */
    private static void correct() {
        Desk desk = new Desk();
        desk.addRate(4, 0, 60, 1, 0, 0);
        desk.record(0, 0, 4500, 0, 60);
        desk.record(0, 1, 4600, 0, 100);
        expect.same("nothing is booked", 0, desk.correct());
        expect.refused("and nothing gets booked", desk, NO_SUCH, () -> desk.booked(0));
        desk.book();
        expect.same("nothing has changed", 0, desk.correct());
        expect.same("no corrections", 0, desk.corrections());
        desk.addRate(45, 0, 90, 1, 0, 0);
        desk.addRate(46, 0, 30, 1, 0, 0);
        desk.record(0, 2, 4700, 0, 100);
        expect.same("30 more and 50 less", -20, desk.correct());
        expect.same("two corrections", 2, desk.corrections());
        expect.same("the dearer one", 90, desk.booked(0));
        expect.same("the cheaper one", 50, desk.booked(1));
        expect.refused("one not booked", desk, NO_SUCH, () -> desk.booked(2));
        expect.same("twice changes nothing more", 0, desk.correct());
        expect.same("still two corrections", 2, desk.corrections());
        desk.record(1, 0, 4500, 5, 64);
        expect.same("a longer leg", 6, desk.correct());
        expect.same("three corrections", 3, desk.corrections());
    }

    private static void correctionsAreCountedEach() {
        Desk desk = new Desk();
        desk.addRate(4, 0, 60, 1, 0, 0);
        desk.record(0, 0, 4500, 0, 60);
        desk.record(0, 1, 4600, 0, 60);
        desk.book();
        desk.addRate(45, 0, 70, 1, 0, 0);
        desk.addRate(46, 0, 50, 1, 0, 0);
        expect.same("changes that cancel out", 0, desk.correct());
        expect.same("are counted", 2, desk.corrections());
        desk.addRate(45, 0, 80, 1, 0, 0);
        expect.same("one again", 10, desk.correct());
        expect.same("counted again", 3, desk.corrections());
    }

    /** Promise 16. */
    private static void total() {
        Desk desk = new Desk();
        desk.record(0, 0, 1234, 0, 1);
        desk.record(0, 1, 12345, 0, 10);
        desk.record(0, 2, 12345678, 0, 100);
        desk.record(0, 3, 21234, 0, 1000);
        desk.addRate(1, 0, 60, 1, 0, 0);
        desk.addRate(2, 0, 60, 1, 0, 0);
        expect.same("nothing is booked", 0, desk.total(1));
        desk.book();
        desk.record(0, 4, 12345, 0, 5000);
        expect.same("1", 111, desk.total(1));
        expect.same("1234", 111, desk.total(1234));
        expect.same("12345", 110, desk.total(12345));
        expect.same("12344", 0, desk.total(12344));
        expect.same("2", 1000, desk.total(2));
        expect.same("21", 1000, desk.total(21));
        expect.same("99999", 0, desk.total(99999));
        for (int wrong : new int[] {0, -1, 100000, Integer.MIN_VALUE, Integer.MAX_VALUE}) {
            expect.refused("total(" + wrong + ")", desk, ARGUMENT, () -> desk.total(wrong));
        }
    }
}
