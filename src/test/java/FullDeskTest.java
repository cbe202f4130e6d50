import java.util.NoSuchElementException;

/**
 * What a desk answers that is full: 60 calls, 30 rates, 10 offers of each carrier; how the last
 * place is filled, what is refused behind it, and what is not. Also how far sums and runs go.
 */
public final class FullDeskTest {
    private static final Class<IllegalStateException> STATE = IllegalStateException.class;
    private static final Class<IndexOutOfBoundsException> INDEX = IndexOutOfBoundsException.class;
    private static final Class<NoSuchElementException> NO_SUCH = NoSuchElementException.class;

    private static final int LAST = 59;

    private static final Expect expect = new Expect("full desk");

    public static void main(String[] args) {
        lastPlaces();
        noCallMore();
        noRateMore();
        noOfferMore();
        doublesOfAFullDesk();
        legsOfAFullDesk();
        everyCallTakesThreeLegs();
        recordsAreAnswered();
        chargesAreAnswered();
        routesAreAnswered();
        claimsAreAnswered();
        placesOfOffersAreUsedAgain();
        greatestSums();
        fiveHundredAndTwelveCalls();
        expect.end();
    }

    private static void lastPlaces() {
        Desk desk = new Desk();
        for (int i = 0; i < LAST; i++) {
            desk.record(0, i, 5000, i * 1000, 0);
        }
        expect.same("59 calls", 59, desk.calls());
        expect.answers("the 60th call", 59, () -> desk.record(0, 59, 5000, 999999, 0));
        expect.same("60 calls", 60, desk.calls());
        for (int i = 0; i < 29; i++) {
            desk.addRate(5, 0, 60, 1, 0, 0);
        }
        expect.answers("the 30th rate", 29, () -> desk.addRate(5, 0, 60, 1, 0, 0));
        for (int i = 0; i < 9; i++) {
            desk.offer(3, 50 + i, 7);
        }
        expect.answers("the 10th offer", -1, () -> desk.offer(3, 1, 8));
        expect.answers("the 10th offer holds", 8, () -> desk.offerFor(3, 1000));
    }

    private static void noCallMore() {
        Desk desk = Scenes.full();
        expect.refused("another number", desk, STATE, () -> desk.record(1, 100, 5000, 0, 100));
        expect.refused("6 later", desk, STATE, () -> desk.record(1, 100, 40000, 6, 100));
        expect.refused("6 longer", desk, STATE, () -> desk.record(1, 100, 40000, 0, 106));
        expect.refused("the same switch", desk, STATE, () -> desk.record(0, 100, 40000, 0, 100));
        desk.setBound(0);
        expect.refused("1 later, bound 0", desk, STATE, () -> desk.record(1, 100, 40000, 1, 100));
        expect.same("its number was left free", 0, desk.record(1, 100, 40000, 0, 100));
        expect.same("no double was counted", 0, desk.doubles(1));
        expect.same("calls", 60, desk.calls());
    }

    private static void noRateMore() {
        Desk desk = Scenes.full();
        expect.refused("a new prefix", desk, STATE, () -> desk.addRate(7, 0, 60, 1, 0, 0));
        expect.refused("an old prefix, an old day", desk, STATE,
                () -> desk.addRate(4, 0, 60, 1, 0, 0));
        expect.refused("once more", desk, STATE, () -> desk.addRate(7, 0, 60, 1, 0, 0));
    }

    private static void noOfferMore() {
        Desk desk = Scenes.full();
        for (int i = 0; i < 4; i++) {
            int carrier = i;
            expect.refused("a new price", desk, STATE, () -> desk.offer(carrier, 45, 0));
            expect.refused("a new price again", desk, STATE, () -> desk.offer(carrier, 99999, 5));
            expect.same("none stays none", -1, desk.offer(carrier, 45, -1));
            expect.refused("and leaves no place", desk, STATE, () -> desk.offer(carrier, 45, 0));
            expect.same("an old price", 10 + carrier, desk.offer(carrier, 4, 0));
            expect.same("the last one", 10 + carrier, desk.offer(carrier, 99, 10000));
            expect.same("it is set", 10000, desk.offerFor(carrier, 9900));
        }
    }

    private static void doublesOfAFullDesk() {
        Desk desk = Scenes.full();
        expect.same("a double", -1, desk.record(0, 0, 40000, 0, 100));
        expect.same("a double of what would be new", -1, desk.record(0, 59, 77777777, 5, 5));
        expect.same("they are counted", 2, desk.doubles(0));
        expect.same("calls", 60, desk.calls());
        expect.same("the length is as before", 100, desk.length(0));
    }

    private static void legsOfAFullDesk() {
        Desk desk = Scenes.full();
        expect.same("a leg of the first call", 0, desk.record(2, 0, 40000, 5, 105));
        expect.same("a leg of the last call", LAST, desk.record(1, 0, 40059, 58995, 154));
        expect.same("its legs", 3, desk.legs(LAST));
        expect.same("the greatest length", 159, desk.length(LAST));
        expect.same("the third leg", LAST, desk.record(2, 1, 40059, 59005, 164));
        expect.same("all its legs", 7, desk.legs(LAST));
        expect.same("a greater length", 164, desk.length(LAST));
    }

    private static void everyCallTakesThreeLegs() {
        Desk desk = Scenes.full();
        for (int i = 0; i < Scenes.FULL_CALLS; i++) {
            expect.same("the second leg", i, desk.record(1, i, 40000 + i, i * 1000, 100 + i));
            expect.same("the third leg", i, desk.record(2, i, 40000 + i, i * 1000, 100 + i));
        }
        for (int i = 0; i < 3; i++) {
            int source = i;
            expect.refused("a fourth leg", desk, STATE,
                    () -> desk.record(source, 60, 40000, 0, 100));
        }
        for (int i = 0; i < Scenes.FULL_CALLS; i++) {
            expect.same("three legs", 7, desk.legs(i));
        }
    }

    private static void recordsAreAnswered() {
        Desk desk = Scenes.full();
        expect.same("setBound", 5, desk.setBound(100));
        expect.same("calls", 60, desk.calls());
        expect.same("gaps", 0, desk.gaps(0));
        expect.same("gaps of another switch", 0, desk.gaps(1));
        expect.same("doubles", 0, desk.doubles(0));
        for (int i = 0; i < Scenes.FULL_CALLS; i++) {
            expect.same("legs", 1, desk.legs(i));
            expect.same("length", 100 + i, desk.length(i));
        }
        expect.refused("legs(60)", desk, INDEX, () -> desk.legs(60));
        expect.refused("length(60)", desk, INDEX, () -> desk.length(60));
        expect.same("a leg at the bound", LAST, desk.record(1, 9999, 40059, 59100, 59));
        expect.same("one number is no gap", 0, desk.gaps(1));
    }

    private static void chargesAreAnswered() {
        Desk desk = Scenes.full();
        expect.same("the first rate", 0, desk.rateFor(40059, 58));
        expect.same("the last rate", 29, desk.rateFor(40059, 59));
        expect.same("the rate before it", 28, desk.rateFor(9900, 999));
        expect.refused("no rate", desk, NO_SUCH, () -> desk.rateFor(9900, 0));
        expect.same("the first charge", 100, desk.charge(0));
        expect.same("the last charge, at twice the price", 318, desk.charge(LAST));
        expect.refused("charge(60)", desk, INDEX, () -> desk.charge(60));
        expect.refused("not booked", desk, NO_SUCH, () -> desk.booked(LAST));
        expect.same("book", 60, desk.book());
        expect.same("book once", 0, desk.book());
        expect.same("the last booking", 318, desk.booked(LAST));
        expect.refused("booked(60)", desk, INDEX, () -> desk.booked(60));
        // 100 to 158 seconds, and 318 for the last call.
        expect.same("total", 59 * 129 + 318, desk.total(4));
        expect.same("total of one call", 318, desk.total(40059));
        expect.same("correct", 0, desk.correct());
        desk.record(1, 0, 40059, 59000, 160);
        desk.record(1, 1, 40000, 0, 105);
        expect.same("correct, two longer calls", 2 + 5, desk.correct());
        expect.same("corrections", 2, desk.corrections());
        expect.same("correct twice", 0, desk.correct());
        expect.same("corrections as before", 2, desk.corrections());
    }

    private static void routesAreAnswered() {
        Desk desk = Scenes.full();
        for (int carrier = 0; carrier < 4; carrier++) {
            expect.same("offerFor", 10 + carrier, desk.offerFor(carrier, 40000));
            expect.same("offerFor, the last prefix", 10 + carrier, desk.offerFor(carrier, 9900));
            expect.same("route", carrier, desk.route(40000, 0, 0, carrier));
        }
        expect.refused("the fifth carrier", desk, NO_SUCH, () -> desk.route(40000, 0, 0, 4));
        expect.refused("no offer", desk, NO_SUCH, () -> desk.offerFor(0, 5000));
        expect.same("the margin leaves all", 3, desk.route(40000, 0, 47, 3));
        expect.refused("and now three", desk, NO_SUCH, () -> desk.route(40000, 0, 48, 3));
        expect.same("the third one", 2, desk.route(40000, 0, 48, 2));
        expect.same("the margin leaves one", 0, desk.route(40000, 0, 50, 0));
        expect.refused("the margin leaves none", desk, NO_SUCH,
                () -> desk.route(40000, 0, 51, 0));
    }

    private static void claimsAreAnswered() {
        Desk desk = Scenes.full();
        expect.same("all alike: the first call", 0, desk.worst());
        desk.book();
        expect.same("the greatest booking", LAST, desk.worst());
        expect.same("claim", 0, desk.claim(LAST, 318));
        expect.same("claim again", 318, desk.claim(LAST, 319));
        expect.same("the greatest booking now", 58, desk.worst());
        expect.refused("claim(60, 0)", desk, INDEX, () -> desk.claim(60, 0));
        expect.same("difference of one call", 1, desk.difference(40059));
        expect.same("difference", 1 - 59 * 129, desk.difference(4));
        expect.same("narrow", 4, desk.narrow(1));
        // Ten calls of 140 to 149 seconds outweigh the nine of 150 to 158.
        expect.same("narrow to a call", 40049, desk.narrow(5));
        expect.same("claim more", 0, desk.claim(0, 1000000));
        expect.same("worst", 0, desk.worst());
        expect.same("narrow to another call", 40000, desk.narrow(5));
    }

    private static void placesOfOffersAreUsedAgain() {
        Desk desk = Scenes.full();
        for (int i = 0; i < 30; i++) {
            int prefix = i == 0 ? 4 : 699 + i;
            expect.same("given up", 10, desk.offer(0, prefix, -1));
            expect.same("another in its place", -1, desk.offer(0, 700 + i, 10));
            expect.same("it holds", 10, desk.offerFor(0, 7000 + i * 10));
        }
        expect.refused("no place is left", desk, STATE, () -> desk.offer(0, 4, 10));
        for (int i = 1; i < Scenes.FULL_OFFERS; i++) {
            expect.same("the others stay", 10, desk.offer(0, 90 + i, -1));
        }
        for (int i = 1; i < Scenes.FULL_OFFERS; i++) {
            expect.same("all places are used again", -1, desk.offer(0, 80 + i, 3));
        }
        expect.refused("and are full again", desk, STATE, () -> desk.offer(0, 90, 10));
    }

    private static void greatestSums() {
        Desk desk = new Desk();
        // 197 steps of 51 seconds are 10047, more than with any other step.
        desk.addRate(9, 0, 10000, 51, 120, 1000);
        for (int i = 0; i < 60; i++) {
            desk.record(0, i, 99999999, 999999, 10000);
        }
        expect.same("the greatest charge", 1675500, desk.charge(LAST));
        expect.same("book", 60, desk.book());
        expect.same("total", 100530000, desk.total(99999));
        expect.same("difference", -100530000, desk.difference(99999));
        expect.same("narrow", 99999, desk.narrow(5));
        for (int i = 0; i < 60; i++) {
            desk.claim(i, 1000000);
        }
        expect.same("difference, all claimed", -40530000, desk.difference(9));
        desk.addRate(99999, 999, 0, 60, 0, 0);
        expect.same("correct to nothing", -100530000, desk.correct());
        expect.same("corrections", 60, desk.corrections());
        expect.same("total of nothing", 0, desk.total(9));
        expect.same("difference, nothing booked", 60000000, desk.difference(9));
        desk.addRate(99999, 999, 10000, 51, 0, 1000);
        expect.same("correct back", 100530000, desk.correct());
        expect.same("corrections, each time", 120, desk.corrections());
    }

    private static void fiveHundredAndTwelveCalls() {
        Desk doubles = new Desk();
        for (int i = 0; i < 511; i++) {
            doubles.record(1, 5, 4500, 0, 0);
        }
        expect.same("the 512th call, doubles", 510, doubles.doubles(1));
        Desk corrected = new Desk();
        corrected.record(0, 0, 4500, 0, 60);
        corrected.addRate(4, 0, 60, 1, 0, 0);
        corrected.book();
        for (int i = 0; i < 508; i++) {
            corrected.claim(0, i);
        }
        expect.same("the 512th call, claim", 507, corrected.claim(0, 0));
        Desk delivered = new Desk();
        for (int i = 0; i < 511; i++) {
            int sequence = i * 19;
            Outcome.of(() -> delivered.record(2, sequence, 4500, 0, 0));
        }
        // The first 60 were taken, the numbers of the others are as if they never came.
        expect.same("the 512th call, gaps", 59 * 19 + 1 - 60, delivered.gaps(2));
        expect.same("calls made", Desk.MAX_CALLS, delivered.callsMade());
    }
}
