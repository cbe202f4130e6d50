import java.util.NoSuchElementException;

/** Promises 20 to 23: claims. */
public final class ClaimsTest {
    private static final Class<IllegalArgumentException> ARGUMENT = IllegalArgumentException.class;
    private static final Class<IndexOutOfBoundsException> INDEX = IndexOutOfBoundsException.class;
    private static final Class<NoSuchElementException> NO_SUCH = NoSuchElementException.class;

    private static final Expect expect = new Expect("claims");

    public static void main(String[] args) {
        claim();
        difference();
        narrow();
        narrowWithoutSign();
        narrowWithoutDifferences();
        narrowGoesOnBehindTheDigit();
        narrowBySums();
        narrowAtItsEdges();
        worst();
        worstOfSeveral();
        expect.end();
    }

    /** Promise 20. */
    private static void claim() {
        Desk desk = new Desk();
        desk.record(0, 0, 4500, 0, 60);
        desk.record(0, 1, 4500, 0, 60);
        expect.same("nothing before", 0, desk.claim(0, 1000000));
        expect.same("the one before", 1000000, desk.claim(0, 0));
        expect.same("0 before", 0, desk.claim(0, 7));
        expect.same("another call", 0, desk.claim(1, 8));
        expect.same("in place, not added", 15, desk.difference(4));
        for (int wrong : new int[] {-1, 2, 60, Integer.MIN_VALUE, Integer.MAX_VALUE}) {
            expect.refused("claim(" + wrong + ", 0)", desk, INDEX, () -> desk.claim(wrong, 0));
            expect.refused("claim(" + wrong + ", -1)", desk, INDEX, () -> desk.claim(wrong, -1));
        }
        for (int wrong : new int[] {-1, 1000001, Integer.MIN_VALUE, Integer.MAX_VALUE}) {
            expect.refused("claim(0, " + wrong + ")", desk, ARGUMENT, () -> desk.claim(0, wrong));
        }
    }

    /** Promise 21. */
    private static void difference() {
        Desk desk = new Desk();
        desk.record(0, 0, 1234, 0, 60);
        desk.record(0, 1, 12345, 0, 100);
        desk.record(0, 2, 21234, 0, 60);
        desk.claim(0, 50);
        expect.same("not booked", 50, desk.difference(1));
        desk.addRate(1, 0, 60, 1, 0, 0);
        expect.same("a charge is no booking", 50, desk.difference(1));
        desk.book();
        expect.same("less is claimed", -110, desk.difference(1));
        expect.same("1234", -110, desk.difference(1234));
        expect.same("12345", -100, desk.difference(12345));
        expect.same("2", 0, desk.difference(2));
        desk.claim(2, 1000000);
        expect.same("2, claimed", 1000000, desk.difference(2));
        expect.same("99999", 0, desk.difference(99999));
        desk.addRate(12345, 0, 6, 1, 0, 0);
        expect.same("before correcting", -100, desk.difference(12345));
        desk.correct();
        expect.same("after correcting", -10, desk.difference(12345));
        for (int wrong : new int[] {0, -1, 100000, Integer.MIN_VALUE, Integer.MAX_VALUE}) {
            expect.refused("difference(" + wrong + ")", desk, ARGUMENT,
                    () -> desk.difference(wrong));
        }
    }

    /** Promise 22. */
    private static void narrow() {
        Desk desk = new Desk();
        desk.record(0, 0, 90909, 0, 60);
        desk.record(0, 1, 81828, 0, 60);
        desk.record(0, 2, 1000, 0, 60);
        desk.claim(0, 100);
        desk.claim(1, 99);
        expect.same("one digit", 9, desk.narrow(1));
        expect.same("two digits", 90, desk.narrow(2));
        expect.same("three digits", 909, desk.narrow(3));
        expect.same("four digits", 9090, desk.narrow(4));
        expect.same("five digits", 90909, desk.narrow(5));
        desk.claim(1, 100);
        expect.same("of several the least one", 81828, desk.narrow(5));
        desk.claim(2, 101);
        expect.same("five digits of a number of four", 10000, desk.narrow(5));
        for (int wrong : new int[] {0, 6, -1, Integer.MIN_VALUE, Integer.MAX_VALUE}) {
            expect.refused("narrow(" + wrong + ")", desk, ARGUMENT, () -> desk.narrow(wrong));
        }
    }

    private static void narrowWithoutSign() {
        Desk desk = new Desk();
        desk.addRate(7, 0, 60, 1, 0, 0);
        desk.record(0, 0, 77777, 0, 200);
        desk.record(0, 1, 33333, 0, 0);
        desk.book();
        desk.claim(1, 199);
        expect.same("200 too little", 77777, desk.narrow(5));
        desk.claim(1, 200);
        expect.same("200 too much, the least one", 33333, desk.narrow(5));
    }

    private static void narrowWithoutDifferences() {
        Desk desk = new Desk();
        expect.same("no calls, one digit", 1, desk.narrow(1));
        expect.same("no calls, five digits", 10000, desk.narrow(5));
        desk.record(0, 0, 99999, 0, 60);
        expect.same("no claims", 100, desk.narrow(3));
    }

    private static void narrowGoesOnBehindTheDigit() {
        Desk desk = new Desk();
        desk.record(0, 0, 51000, 0, 60);
        desk.record(0, 1, 52000, 0, 60);
        desk.record(0, 2, 61000, 0, 60);
        desk.claim(0, 60);
        desk.claim(1, 70);
        desk.claim(2, 100);
        expect.same("the sum of 5 is the greatest", 5, desk.narrow(1));
        expect.same("within it the greatest one", 52, desk.narrow(2));
    }

    /** The sum of a prefix counts, so that what cancels out within it does not. */
    private static void narrowBySums() {
        Desk desk = new Desk();
        desk.addRate(11, 0, 60, 1, 0, 0);
        desk.record(0, 0, 11000, 0, 100);
        desk.record(0, 1, 12000, 0, 100);
        desk.record(0, 2, 90000, 0, 100);
        desk.book();
        desk.claim(1, 100);
        desk.claim(2, 1);
        expect.same("100 less and 100 more", 0, desk.difference(1));
        expect.same("one more elsewhere", 9, desk.narrow(1));
        desk.claim(1, 101);
        expect.same("as much, the least one", 1, desk.narrow(1));
        expect.same("within it the greatest one", 12, desk.narrow(2));
        desk.claim(1, 100);
        desk.claim(2, 0);
        expect.same("nothing left", 1, desk.narrow(1));
        expect.same("of two alike the least one, less as it is", 11, desk.narrow(2));
    }

    /** The digits 0 and 9: the first one is not 0, those behind it are 0 to 9. */
    private static void narrowAtItsEdges() {
        for (int number : new int[] {1000, 1009, 1090, 9009, 9090, 9900, 9999}) {
            Desk desk = new Desk();
            desk.record(0, 0, number, 0, 60);
            desk.claim(0, 1);
            int prefix = number;
            for (int digits = 4; digits >= 1; digits--) {
                expect.same("digits of " + number, prefix, desk.narrow(digits));
                prefix /= 10;
            }
            expect.same("a digit behind " + number, number * 10, desk.narrow(5));
        }
        Desk longer = new Desk();
        longer.record(0, 0, 99999999, 0, 60);
        longer.claim(0, 1);
        expect.same("five of eight digits", 99999, longer.narrow(5));
    }

    /** "without the sign, of several the one with the lowest number" */
    private static void worstOfSeveral() {
        Desk desk = new Desk();
        desk.addRate(4, 0, 60, 1, 0, 0);
        desk.record(0, 0, 4500, 0, 0);
        desk.record(0, 1, 4600, 0, 50);
        desk.record(0, 2, 7000, 0, 0);
        desk.book();
        expect.same("50 less", 1, desk.worst());
        desk.claim(2, 49);
        expect.same("49 more", 1, desk.worst());
        desk.claim(2, 50);
        expect.same("as much, the lower number", 1, desk.worst());
        desk.claim(0, 50);
        expect.same("as much, the lowest number", 0, desk.worst());
        desk.claim(2, 51);
        expect.same("one more", 2, desk.worst());
        desk.claim(1, 102);
        expect.same("52 more", 1, desk.worst());
        desk.claim(1, 50);
        desk.claim(2, 0);
        desk.claim(0, 0);
        expect.same("no difference at all", 0, desk.worst());
    }

    /** Promise 23. */
    private static void worst() {
        Desk desk = new Desk();
        expect.refused("no calls", desk, NO_SUCH, desk::worst);
        desk.record(0, 0, 4500, 0, 60);
        desk.record(0, 1, 4600, 0, 100);
        desk.record(0, 2, 5700, 0, 60);
        expect.same("no difference", 0, desk.worst());
        desk.claim(2, 1);
        expect.same("not booked, claimed", 2, desk.worst());
        desk.addRate(4, 0, 60, 1, 0, 0);
        expect.same("a charge is no booking", 2, desk.worst());
        desk.book();
        expect.same("booked, not claimed", 1, desk.worst());
        desk.claim(0, 160);
        expect.same("of several the lowest number", 0, desk.worst());
        desk.claim(2, 100);
        expect.same("still the lowest number", 0, desk.worst());
        desk.claim(2, 101);
        expect.same("one more", 2, desk.worst());
        desk.claim(1, 202);
        expect.same("the other side", 1, desk.worst());
    }
}
