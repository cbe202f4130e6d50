import java.util.NoSuchElementException;

/** Promises 20 to 23: claims. */
public final class ClaimsTest {
    private static final Class<IllegalArgumentException> ARGUMENT = IllegalArgumentException.class;
    private static final Class<IndexOutOfBoundsException> INDEX = IndexOutOfBoundsException.class;
    private static final Class<NoSuchElementException> NO_SUCH = NoSuchElementException.class;

    private static final Expect expect = new Expect("claims");

    public static void main(String[] args) {
        claim();
        difference();
        narrow();
        narrowWithoutSign();
        narrowWithoutDifferences();
        narrowGoesOnBehindTheDigit();
        worst();
        expect.end();
    }

    /** Promise 20. */
    private static void claim() {
        CarrierDesk desk = new CarrierDesk();
        desk.record(0, 0, 4500, 0, 60);
        desk.record(0, 1, 4500, 0, 60);
        expect.same("nothing before", 0, desk.claim(0, 1000000));
        expect.same("the one before", 1000000, desk.claim(0, 0));
        expect.same("0 before", 0, desk.claim(0, 7));
        expect.same("another call", 0, desk.claim(1, 8));
        expect.same("in place, not added", 15, desk.difference(4));
        for (int wrong : new int[] {-1, 2, 60, Integer.MIN_VALUE, Integer.MAX_VALUE}) {
            expect.refused("claim(" + wrong + ", 0)", desk, INDEX, () -> desk.claim(wrong, 0));
            expect.refused("claim(" + wrong + ", -1)", desk, INDEX, () -> desk.claim(wrong, -1));
        }
        for (int wrong : new int[] {-1, 1000001, Integer.MIN_VALUE, Integer.MAX_VALUE}) {
            expect.refused("claim(0, " + wrong + ")", desk, ARGUMENT, () -> desk.claim(0, wrong));
        }
    }

    /** Promise 21. */
    private static void difference() {
        CarrierDesk desk = new CarrierDesk();
        desk.record(0, 0, 1234, 0, 60);
        desk.record(0, 1, 12345, 0, 100);
        desk.record(0, 2, 21234, 0, 60);
        desk.claim(0, 50);
        expect.same("not booked", 50, desk.difference(1));
        desk.addRate(1, 0, 60, 1, 0, 0);
        expect.same("a charge is no booking", 50, desk.difference(1));
        desk.book();
        expect.same("less is claimed", -110, desk.difference(1));
        expect.same("1234", -110, desk.difference(1234));
        expect.same("12345", -100, desk.difference(12345));
        expect.same("2", 0, desk.difference(2));
        desk.claim(2, 1000000);
        expect.same("2, claimed", 1000000, desk.difference(2));
        expect.same("99999", 0, desk.difference(99999));
        desk.addRate(12345, 0, 6, 1, 0, 0);
        expect.same("before correcting", -100, desk.difference(12345));
        desk.correct();
        expect.same("after correcting", -10, desk.difference(12345));
        for (int wrong : new int[] {0, -1, 100000, Integer.MIN_VALUE, Integer.MAX_VALUE}) {
            expect.refused("difference(" + wrong + ")", desk, ARGUMENT,
                    () -> desk.difference(wrong));
        }
    }

    /** Promise 22. */
    private static void narrow() {
        CarrierDesk desk = new CarrierDesk();
        desk.record(0, 0, 90909, 0, 60);
        desk.record(0, 1, 81828, 0, 60);
        desk.record(0, 2, 1000, 0, 60);
        desk.claim(0, 100);
        desk.claim(1, 99);
        expect.same("one digit", 9, desk.narrow(1));
        expect.same("two digits", 90, desk.narrow(2));
        expect.same("three digits", 909, desk.narrow(3));
        expect.same("four digits", 9090, desk.narrow(4));
        expect.same("five digits", 90909, desk.narrow(5));
        desk.claim(1, 100);
        expect.same("of several the least one", 81828, desk.narrow(5));
        desk.claim(2, 101);
        expect.same("five digits of a number of four", 10000, desk.narrow(5));
        for (int wrong : new int[] {0, 6, -1, Integer.MIN_VALUE, Integer.MAX_VALUE}) {
            expect.refused("narrow(" + wrong + ")", desk, ARGUMENT, () -> desk.narrow(wrong));
        }
    }

    private static void narrowWithoutSign() {
        CarrierDesk desk = new CarrierDesk();
        desk.addRate(7, 0, 60, 1, 0, 0);
        desk.record(0, 0, 77777, 0, 200);
        desk.record(0, 1, 33333, 0, 0);
        desk.book();
        desk.claim(1, 199);
        expect.same("200 too little", 77777, desk.narrow(5));
        desk.claim(1, 200);
        expect.same("200 too much, the least one", 33333, desk.narrow(5));
    }

    private static void narrowWithoutDifferences() {
        CarrierDesk desk = new CarrierDesk();
        expect.same("no calls, one digit", 1, desk.narrow(1));
        expect.same("no calls, five digits", 10000, desk.narrow(5));
        desk.record(0, 0, 99999, 0, 60);
        expect.same("no claims", 100, desk.narrow(3));
    }

    private static void narrowGoesOnBehindTheDigit() {
        CarrierDesk desk = new CarrierDesk();
        desk.record(0, 0, 51000, 0, 60);
        desk.record(0, 1, 52000, 0, 60);
        desk.record(0, 2, 61000, 0, 60);
        desk.claim(0, 60);
        desk.claim(1, 70);
        desk.claim(2, 100);
        expect.same("the sum of 5 is the greatest", 5, desk.narrow(1));
        expect.same("within it the greatest one", 52, desk.narrow(2));
    }

    /** Promise 23. */
    private static void worst() {
        CarrierDesk desk = new CarrierDesk();
        expect.refused("no calls", desk, NO_SUCH, desk::worst);
        desk.record(0, 0, 4500, 0, 60);
        desk.record(0, 1, 4600, 0, 100);
        desk.record(0, 2, 5700, 0, 60);
        expect.same("no difference", 0, desk.worst());
        desk.claim(2, 1);
        expect.same("not booked, claimed", 2, desk.worst());
        desk.addRate(4, 0, 60, 1, 0, 0);
        expect.same("a charge is no booking", 2, desk.worst());
        desk.book();
        expect.same("booked, not claimed", 1, desk.worst());
        desk.claim(0, 160);
        expect.same("of several the lowest number", 0, desk.worst());
        desk.claim(2, 100);
        expect.same("still the lowest number", 0, desk.worst());
        desk.claim(2, 101);
        expect.same("one more", 2, desk.worst());
        desk.claim(1, 202);
        expect.same("the other side", 1, desk.worst());
    }
}
