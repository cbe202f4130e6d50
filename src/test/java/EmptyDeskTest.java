import java.util.NoSuchElementException;

/** What a desk answers that is empty, as a whole or of one kind of things. */
public final class EmptyDeskTest {
    private static final Class<IndexOutOfBoundsException> INDEX = IndexOutOfBoundsException.class;
    private static final Class<NoSuchElementException> NO_SUCH = NoSuchElementException.class;

    private static final Expect expect = new Expect("empty desk");

    public static void main(String[] args) {
        nothingToTell();
        noSuchCall();
        noRates();
        noOffers();
        firstNumbers();
        ratesAlone();
        callsAlone();
        expect.end();
    }

    private static void nothingToTell() {
        Desk desk = new Desk();
        expect.same("calls", 0, desk.calls());
        for (int source = 0; source < 3; source++) {
            expect.same("gaps, none delivered", 0, desk.gaps(source));
            expect.same("doubles", 0, desk.doubles(source));
        }
        expect.same("book", 0, desk.book());
        expect.same("correct", 0, desk.correct());
        expect.same("corrections", 0, desk.corrections());
        for (int prefix : new int[] {1, 9, 10, 99, 12345, 99999}) {
            expect.same("total", 0, desk.total(prefix));
            expect.same("difference", 0, desk.difference(prefix));
        }
        int least = 1;
        for (int digits = 1; digits <= 5; digits++) {
            expect.same("narrow, all alike", least, desk.narrow(digits));
            least *= 10;
        }
        expect.refused("worst", desk, NO_SUCH, desk::worst);
        expect.same("the bound at first", 5, desk.setBound(5));
    }

    /** Also where nothing is booked and no rate is there: the call is missed first. */
    private static void noSuchCall() {
        Desk desk = new Desk();
        for (int call : new int[] {0, 1, 59, 60, -1}) {
            expect.refused("legs", desk, INDEX, () -> desk.legs(call));
            expect.refused("length", desk, INDEX, () -> desk.length(call));
            expect.refused("charge", desk, INDEX, () -> desk.charge(call));
            expect.refused("booked", desk, INDEX, () -> desk.booked(call));
            expect.refused("claim", desk, INDEX, () -> desk.claim(call, 0));
        }
    }

    private static void noRates() {
        Desk desk = new Desk();
        for (int number : new int[] {1000, 45001, 99999999}) {
            expect.refused("rateFor, day 0", desk, NO_SUCH, () -> desk.rateFor(number, 0));
            expect.refused("rateFor, day 999", desk, NO_SUCH, () -> desk.rateFor(number, 999));
            expect.refused("route", desk, NO_SUCH, () -> desk.route(number, 0, 0, 0));
        }
        for (int carrier = 0; carrier < 4; carrier++) {
            desk.offer(carrier, 4, 0);
        }
        expect.refused("route, offers alone", desk, NO_SUCH, () -> desk.route(45001, 0, 0, 0));
    }

    private static void noOffers() {
        Desk desk = new Desk();
        desk.addRate(4, 0, 10000, 1, 0, 0);
        for (int i = 0; i < 4; i++) {
            int carrier = i;
            expect.refused("offerFor", desk, NO_SUCH, () -> desk.offerFor(carrier, 45001));
            expect.same("no offer before", -1, desk.offer(carrier, 4, -1));
            expect.refused("offerFor, none still", desk, NO_SUCH,
                    () -> desk.offerFor(carrier, 45001));
        }
        expect.refused("route, a rate alone", desk, NO_SUCH, () -> desk.route(45001, 0, 0, 0));
    }

    private static void firstNumbers() {
        Desk desk = new Desk();
        expect.same("the first call", 0, desk.record(2, 9999, 45001, 999999, 0));
        expect.same("calls", 1, desk.calls());
        expect.same("the first rate", 0, desk.addRate(4, 0, 0, 1, 0, 0));
        expect.same("the first claim", 0, desk.claim(0, 5));
    }

    private static void ratesAlone() {
        Desk desk = new Desk();
        desk.addRate(4, 0, 60, 1, 0, 0);
        expect.same("calls", 0, desk.calls());
        expect.same("book", 0, desk.book());
        expect.same("correct", 0, desk.correct());
        expect.same("total", 0, desk.total(4));
        expect.refused("charge", desk, INDEX, () -> desk.charge(0));
        expect.refused("worst", desk, NO_SUCH, desk::worst);
    }

    private static void callsAlone() {
        Desk desk = new Desk();
        desk.record(0, 0, 45001, 0, 60);
        expect.refused("charge", desk, NO_SUCH, () -> desk.charge(0));
        expect.same("book", 0, desk.book());
        expect.refused("booked", desk, NO_SUCH, () -> desk.booked(0));
        expect.same("correct", 0, desk.correct());
        expect.same("corrections", 0, desk.corrections());
        expect.same("total", 0, desk.total(4));
        expect.same("difference", 0, desk.difference(4));
        expect.same("worst", 0, desk.worst());
    }
}
