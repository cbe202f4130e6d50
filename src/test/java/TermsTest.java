import java.util.NoSuchElementException;

/**
 * The sentences under "Terms" that name a boundary, each with its last case on the one side and
 * its first one on the other.
 */
public final class TermsTest {
    private static final Class<NoSuchElementException> NO_SUCH = NoSuchElementException.class;

    private static final Expect expect = new Expect("terms");

    public static void main(String[] args) {
        prefixesFitByTheirDigits();
        prefixesLongerThanNumbers();
        daysAreThousandths();
        doublesBySwitchAndNumber();
        boundOfBeginning();
        boundOfLength();
        bothAreBounded();
        boundAtFirst();
        boundOfRecordsThatCome();
        lowestCallOfSeveral();
        oneLegOfASwitch();
        firstLegOfACall();
        lengthOfACall();
        timeOfACall();
        ratesOfOneDay();
        ratesOfOnePrefix();
        longestPrefixInForce();
        wholeSteps();
        leastLength();
        roundedUp();
        bookedOnce();
        correctedTwice();
        correctedIfBooked();
        offersByPrefix();
        expect.end();
    }

    /** "A prefix has 1 to 5 digits [..]; it fits a number if the number begins with its digits." */
    private static void prefixesFitByTheirDigits() {
        int[] numbers = {1234, 12345, 123456, 1234567, 12345678};
        int[] fitting = {1, 12, 123, 1234, 12345};
        int[] others = {2, 13, 11, 124, 122, 1235, 1233, 12346, 12344, 23, 234, 99999, 10, 9};
        for (int number : numbers) {
            for (int prefix : fitting) {
                look(number, prefix, number >= 10000 || prefix <= 1234);
            }
            for (int prefix : others) {
                look(number, prefix, false);
            }
        }
        look(1000, 1, true);
        look(1000, 10, true);
        look(1000, 100, true);
        look(1000, 1000, true);
        look(1000, 1001, false);
        look(1000, 999, false);
        look(99999999, 99999, true);
        look(99999999, 99998, false);
        look(99999999, 9, true);
        look(10000000, 10000, true);
        look(10000000, 10001, false);
    }

    /** "4 to 8 digits" and "1 to 5 digits": a prefix of five is longer than a number of four. */
    private static void prefixesLongerThanNumbers() {
        look(1000, 10000, false);
        look(1000, 10001, false);
        look(1234, 12340, false);
        look(9999, 99999, false);
        look(9999, 99990, false);
        look(10000, 10000, true);
        look(99999, 99999, true);
    }

    /** The same in rates, offers, sums of bookings and differences. */
    private static void look(int number, int prefix, boolean fits) {
        String what = prefix + " for " + number;
        Desk desk = new Desk();
        desk.addRate(prefix, 0, 60, 1, 0, 7);
        desk.offer(2, prefix, 3);
        desk.record(0, 0, number, 0, 0);
        String none = NO_SUCH.getName();
        expect.look(what + ", rateFor", fits ? "0" : none,
                Outcome.of(() -> desk.rateFor(number, 0)));
        expect.look(what + ", charge", fits ? "7" : none, Outcome.of(() -> desk.charge(0)));
        expect.look(what + ", offerFor", fits ? "3" : none,
                Outcome.of(() -> desk.offerFor(2, number)));
        expect.look(what + ", route", fits ? "2" : none,
                Outcome.of(() -> desk.route(number, 0, 0, 0)));
        Desk all = new Desk();
        for (int digit = 1; digit <= 9; digit++) {
            all.addRate(digit, 0, 60, 1, 0, 7);
        }
        all.record(0, 0, number, 0, 0);
        all.book();
        expect.same(what + ", total", fits ? 7 : 0, all.total(prefix));
        all.claim(0, 20);
        expect.same(what + ", difference", fits ? 13 : 0, all.difference(prefix));
    }

    /** "the day of a time is a thousandth of it, rounded down, from 0 to 999" */
    private static void daysAreThousandths() {
        int[][] due = {{0, 0}, {1, 0}, {999, 0}, {1000, 1}, {1001, 1}, {1999, 1}, {2000, 2},
            {499999, 499}, {500000, 500}, {998999, 998}, {999000, 999}, {999999, 999}};
        for (int[] d : due) {
            Desk desk = new Desk();
            desk.record(0, 0, 4500, d[0], 60);
            desk.addRate(4, d[1], 60, 1, 0, 0);
            expect.answers("the day of " + d[0], 60, () -> desk.charge(0));
            if (d[1] < 999) {
                desk.addRate(4, d[1] + 1, 120, 1, 0, 0);
                expect.answers("not the day after, of " + d[0], 60, () -> desk.charge(0));
            }
        }
        Desk early = new Desk();
        early.record(0, 0, 4500, 998999, 60);
        early.addRate(4, 999, 60, 1, 0, 0);
        expect.refused("the last second before its day", early, NO_SUCH, () -> early.charge(0));
    }

    /** "If the switch has delivered the sequence number before, it is a double and is left out." */
    private static void doublesBySwitchAndNumber() {
        int[] numbers = {0, 1, 31, 32, 63, 64, 127, 128, 4999, 9983, 9984, 9998, 9999};
        for (int number : numbers) {
            Desk desk = new Desk();
            expect.same("the first one", 0, desk.record(1, number, 4500, 0, 60));
            expect.same("a double", -1, desk.record(1, number, 4500, 0, 60));
            expect.same("another call is a double too", -1, desk.record(1, number, 7000, 9, 9));
            expect.same("a third one", -1, desk.record(1, number, 4500, 0, 60));
            expect.same("three doubles", 3, desk.doubles(1));
            for (int other : new int[] {number - 1, number + 1, number - 64, number + 64}) {
                if (other >= 0 && other <= 9999) {
                    expect.same("no double", desk.again().calls(),
                            desk.record(1, other, 4500, 0, 60));
                }
            }
            expect.same("another switch", 0, desk.record(0, number, 4500, 0, 60));
            expect.same("and the third", 0, desk.record(2, number, 4500, 0, 60));
        }
    }

    /** "a beginning [..] which [..] differ by at most the bound" */
    private static void boundOfBeginning() {
        for (int bound : new int[] {0, 1, 5, 99, 100}) {
            joined("at the bound, later", bound, bound, 0, true);
            joined("behind the bound, later", bound, bound + 1, 0, false);
            joined("at the bound, earlier", bound, -bound, 0, true);
            joined("behind the bound, earlier", bound, -bound - 1, 0, false);
        }
    }

    /** "and a length which each differ by at most the bound" */
    private static void boundOfLength() {
        for (int bound : new int[] {0, 1, 5, 99, 100}) {
            joined("at the bound, longer", bound, 0, bound, true);
            joined("behind the bound, longer", bound, 0, bound + 1, false);
            joined("at the bound, shorter", bound, 0, -bound, true);
            joined("behind the bound, shorter", bound, 0, -bound - 1, false);
        }
    }

    /** "each": one of them is not made good by the other, nor do they add up. */
    private static void bothAreBounded() {
        for (int bound : new int[] {0, 5, 100}) {
            for (int later : new int[] {-bound, bound}) {
                joined("both at the bound", bound, later, bound, true);
                joined("both at the bound", bound, later, -bound, true);
                joined("the length behind it", bound, later, bound + 1, false);
                joined("the length behind it", bound, later, -bound - 1, false);
                joined("the beginning behind it", bound, bound + 1, later, false);
                joined("the beginning behind it", bound, -bound - 1, later, false);
            }
        }
        joined("both far behind it, alike", 5, 50, 50, false);
    }

    private static void joined(String what, int bound, int later, int longer, boolean due) {
        Desk desk = new Desk();
        desk.setBound(bound);
        desk.record(0, 0, 4500, 3000, 500);
        expect.same(what + ", bound " + bound, due ? 0 : 1,
                desk.record(1, 0, 4500, 3000 + later, 500 + longer));
    }

    /** "The bound is 5 at first." */
    private static void boundAtFirst() {
        Desk desk = new Desk();
        desk.record(0, 0, 4500, 3000, 500);
        expect.same("6 later", 1, desk.record(1, 0, 4500, 3006, 500));
        expect.same("5 later", 0, desk.record(1, 1, 4500, 3005, 505));
        expect.same("6 longer", 2, desk.record(2, 0, 4500, 3000, 494));
    }

    /** "Sets the bound, for records that come from now on." */
    private static void boundOfRecordsThatCome() {
        Desk desk = new Desk();
        desk.setBound(100);
        desk.record(0, 0, 4500, 3000, 500);
        expect.same("100 later", 0, desk.record(1, 0, 4500, 3100, 500));
        expect.same("the bound before", 100, desk.setBound(0));
        expect.same("the legs stay", 3, desk.legs(0));
        expect.same("the call began under another bound", 1, desk.record(2, 0, 4500, 3001, 500));
        expect.same("the bound before", 0, desk.setBound(1));
        expect.same("the call of before", 0, desk.record(2, 1, 4500, 3001, 500));
    }

    /** "of the call with the lowest number that [..]" */
    private static void lowestCallOfSeveral() {
        Desk desk = new Desk();
        // The second is nearest to the record, the third is the last one.
        desk.record(0, 0, 4500, 3000, 500);
        desk.record(0, 1, 4500, 3005, 505);
        desk.record(0, 2, 4500, 3006, 505);
        expect.same("the lowest one, not the nearest", 0, desk.record(1, 0, 4500, 3005, 505));
        expect.same("the next one", 1, desk.record(1, 1, 4500, 3005, 505));
        expect.same("the last one", 2, desk.record(1, 2, 4500, 3005, 505));
        expect.same("none", 3, desk.record(1, 3, 4500, 3005, 505));
        expect.same("a new one joins the lowest again", 0, desk.record(2, 0, 4500, 3005, 505));
        expect.same("then the next one", 1, desk.record(2, 1, 4500, 3006, 505));
    }

    /** "no leg from this switch yet" */
    private static void oneLegOfASwitch() {
        for (int source = 0; source < 3; source++) {
            Desk desk = new Desk();
            expect.same("the first leg", 0, desk.record(source, 0, 4500, 0, 60));
            expect.same("the same switch", 1, desk.record(source, 1, 4500, 0, 60));
            int second = (source + 1) % 3;
            expect.same("another one", 0, desk.record(second, 0, 4500, 0, 60));
            expect.same("the same as that", 1, desk.record(second, 1, 4500, 0, 60));
            expect.same("none is left for it", 2, desk.record(second, 2, 4500, 0, 60));
            int third = (source + 2) % 3;
            expect.same("the third one", 0, desk.record(third, 0, 4500, 0, 60));
            expect.same("three legs", 7, desk.legs(0));
            expect.same("two legs", (1 << source) + (1 << second), desk.legs(1));
            expect.same("one leg", 1 << second, desk.legs(2));
        }
    }

    /** "whose first leg (the one that came first)": not the earliest, not the latest to come. */
    private static void firstLegOfACall() {
        Desk desk = new Desk();
        desk.record(0, 0, 4500, 3000, 500);
        desk.record(1, 0, 4500, 2995, 495);
        expect.same("near the earlier leg only", 1, desk.record(2, 0, 4500, 2994, 500));
        expect.same("near the shorter leg only", 2, desk.record(2, 1, 4500, 3000, 494));
        expect.same("near the first leg only", 0, desk.record(2, 2, 4500, 3005, 505));
    }

    /** "The length of a call is the greatest length of its legs" */
    private static void lengthOfACall() {
        int[][] orders = {{58, 60, 62}, {58, 62, 60}, {60, 58, 62}, {60, 62, 58}, {62, 58, 60},
            {62, 60, 58}};
        for (int[] seconds : orders) {
            Desk desk = new Desk();
            for (int i = 0; i < 3; i++) {
                desk.record(i, 0, 4500, 0, seconds[i]);
            }
            expect.same("three legs", 7, desk.legs(0));
            expect.same("the greatest length", 62, desk.length(0));
        }
        Desk ends = new Desk();
        ends.record(0, 0, 4500, 0, 0);
        expect.same("no second", 0, ends.length(0));
        ends.record(0, 1, 4600, 0, 10000);
        expect.same("the greatest of all", 10000, ends.length(1));
    }

    /** "its time is the beginning of its first leg" */
    private static void timeOfACall() {
        Desk desk = new Desk();
        desk.addRate(4, 0, 60, 1, 0, 0);
        desk.addRate(4, 5, 120, 1, 0, 0);
        desk.record(0, 0, 4500, 5000, 100);
        desk.record(1, 0, 4500, 4999, 100);
        expect.same("an earlier leg of the day before", 200, desk.charge(0));
        desk.record(2, 0, 4600, 4999, 100);
        desk.record(1, 1, 4600, 5000, 100);
        expect.same("a later leg of the day after", 100, desk.charge(1));
    }

    /** "of all rates [..] whose day is this one or an earlier one" */
    private static void ratesOfOneDay() {
        Desk desk = new Desk();
        desk.addRate(4, 1, 0, 1, 0, 0);
        expect.refused("the day before", desk, NO_SUCH, () -> desk.rateFor(4500, 0));
        expect.answers("its day", 0, () -> desk.rateFor(4500, 1));
        expect.answers("the last day", 0, () -> desk.rateFor(4500, 999));
        desk.addRate(5, 999, 0, 1, 0, 0);
        expect.refused("the day before the last", desk, NO_SUCH, () -> desk.rateFor(5500, 998));
        expect.answers("the last day of all", 1, () -> desk.rateFor(5500, 999));
        desk.addRate(6, 0, 0, 1, 0, 0);
        expect.answers("the first day of all", 2, () -> desk.rateFor(6500, 0));
    }

    /** "the one with the latest day is in force, of several the one added last" */
    private static void ratesOfOnePrefix() {
        Desk desk = new Desk();
        desk.addRate(4, 20, 0, 1, 0, 0);
        desk.addRate(4, 10, 0, 1, 0, 0);
        expect.same("the latest day, not the last added", 0, desk.rateFor(4500, 20));
        expect.same("the day before it", 1, desk.rateFor(4500, 19));
        desk.addRate(4, 20, 0, 1, 0, 0);
        desk.addRate(4, 15, 0, 1, 0, 0);
        expect.same("of two the one added last", 2, desk.rateFor(4500, 20));
        expect.same("of the same day and later", 2, desk.rateFor(4500, 999));
        expect.same("one between", 3, desk.rateFor(4500, 19));
        desk.addRate(4, 20, 0, 1, 0, 0);
        expect.same("of three the one added last", 4, desk.rateFor(4500, 20));
        expect.same("before all that", 1, desk.rateFor(4500, 14));
    }

    /** "the longest prefix of those which fit the number and of which one is in force" */
    private static void longestPrefixInForce() {
        Desk desk = new Desk();
        desk.addRate(45, 0, 0, 1, 0, 0);
        desk.addRate(450, 10, 0, 1, 0, 0);
        desk.addRate(4, 20, 0, 1, 0, 0);
        desk.addRate(46000, 0, 0, 1, 0, 0);
        expect.same("the longer one is not in force yet", 0, desk.rateFor(45000, 9));
        expect.same("it is now", 1, desk.rateFor(45000, 10));
        expect.same("a shorter one does not count, late as it is", 1, desk.rateFor(45000, 20));
        expect.same("nor does it here", 0, desk.rateFor(45100, 999));
        expect.refused("46000 does not fit", desk, NO_SUCH, () -> desk.rateFor(46001, 19));
        expect.same("but 4 does", 2, desk.rateFor(46001, 20));
        expect.same("five digits", 3, desk.rateFor(46000, 999));
    }

    /** "its length is rounded up to whole steps" */
    private static void wholeSteps() {
        for (int step : new int[] {1, 2, 6, 30, 59, 60}) {
            charge("no step", 60, step, 0, 0, 0, 0);
            charge("one second", 60, step, 0, 0, 1, step);
            charge("a whole step", 60, step, 0, 0, step, step);
            charge("one second more", 60, step, 0, 0, step + 1, 2 * step);
            charge("one second less", 60, step, 0, 0, 10 * step - 1, step == 1 ? 9 : 10 * step);
            charge("ten steps", 60, step, 0, 0, 10 * step, 10 * step);
        }
    }

    /** "and is the least length if that is greater" */
    private static void leastLength() {
        charge("no least length", 60, 6, 0, 0, 0, 0);
        charge("nothing but the least length", 60, 6, 10, 0, 0, 10);
        charge("the steps are less", 60, 6, 13, 0, 12, 13);
        charge("the steps are as much", 60, 6, 12, 0, 12, 12);
        charge("the steps are more", 60, 6, 11, 0, 12, 12);
        charge("more when they are rounded up", 60, 6, 11, 0, 7, 12);
        charge("it is not rounded to steps", 60, 60, 61, 0, 1, 61);
        charge("the greatest one", 60, 60, 120, 0, 120, 120);
        charge("a step more than that", 60, 60, 120, 0, 121, 180);
    }

    /** "the fee plus the price times this length divided by 60, rounded up" */
    private static void roundedUp() {
        charge("none", 0, 1, 0, 0, 10000, 0);
        charge("the fee alone", 0, 60, 120, 1000, 10000, 1000);
        charge("the fee, no length", 10000, 1, 0, 1000, 0, 1000);
        charge("one of 60", 1, 1, 0, 0, 1, 1);
        charge("59 of 60", 1, 1, 0, 0, 59, 1);
        charge("60 of 60", 1, 1, 0, 0, 60, 1);
        charge("61 of 60", 1, 1, 0, 0, 61, 2);
        charge("59 times 59", 59, 1, 0, 0, 59, 59);
        charge("the fee is whole", 1, 1, 0, 59, 1, 60);
        charge("the greatest price", 10000, 1, 0, 0, 1, 167);
        charge("the greatest price, three seconds", 10000, 1, 0, 0, 3, 500);
        charge("the greatest length", 10000, 1, 0, 1000, 10000, 1667667);
    }

    private static void charge(String what, int price, int step, int least, int fee, int seconds,
            int due) {
        Desk desk = new Desk();
        desk.addRate(4, 0, price, step, least, fee);
        desk.record(0, 0, 4500, 0, seconds);
        expect.same(what + ", step " + step, due, desk.charge(0));
        expect.same(what + ", step " + step + ", book", 1, desk.book());
        expect.same(what + ", step " + step + ", booked", due, desk.booked(0));
    }

    /** "A call can be booked once with its charge by the rate [..], as things are then" */
    private static void bookedOnce() {
        Desk desk = new Desk();
        desk.addRate(4, 0, 60, 1, 0, 0);
        desk.record(0, 0, 4500, 0, 60);
        expect.same("once", 1, desk.book());
        desk.record(1, 0, 4500, 0, 65);
        expect.same("longer now", 65, desk.charge(0));
        desk.addRate(4, 0, 120, 1, 0, 0);
        expect.same("and dearer", 130, desk.charge(0));
        expect.same("not twice", 0, desk.book());
        expect.same("as things were", 60, desk.booked(0));
        expect.same("no correction", 0, desk.corrections());
        desk.record(0, 1, 7000, 0, 60);
        expect.same("a call without such a rate", 0, desk.book());
        desk.addRate(7, 1, 60, 1, 0, 0);
        expect.same("a rate from the next day on", 0, desk.book());
        desk.addRate(7, 0, 60, 1, 0, 0);
        expect.same("now it has one", 1, desk.book());
        Desk nothing = new Desk();
        nothing.addRate(4, 0, 0, 1, 0, 0);
        nothing.record(0, 0, 4500, 0, 0);
        expect.same("a charge of 0 is booked", 1, nothing.book());
        expect.answers("it is booked", 0, () -> nothing.booked(0));
        nothing.addRate(4, 0, 60, 1, 5, 0);
        expect.same("and not booked again", 0, nothing.book());
        expect.same("but corrected", 5, nothing.correct());
    }

    /** "Each call is charged once, and correcting twice changes nothing more." */
    private static void correctedTwice() {
        Desk desk = new Desk();
        desk.addRate(4, 0, 60, 1, 0, 0);
        desk.record(0, 0, 4500, 0, 60);
        desk.book();
        expect.same("nothing to correct", 0, desk.correct());
        desk.addRate(4, 0, 61, 1, 0, 0);
        expect.same("one more", 1, desk.correct());
        String corrected = Outcome.stateOf(desk);
        expect.same("twice", 0, desk.correct());
        expect.look("the state after correcting twice", corrected, Outcome.stateOf(desk));
        expect.same("counted once", 1, desk.corrections());
        desk.addRate(4, 0, 0, 1, 0, 0);
        expect.same("down to nothing", -61, desk.correct());
        expect.same("twice", 0, desk.correct());
        expect.same("counted twice", 2, desk.corrections());
        expect.same("a booking of 0 is corrected too", 0, desk.booked(0));
        desk.addRate(4, 0, 60, 1, 0, 0);
        expect.same("up again", 60, desk.correct());
        expect.same("counted each time", 3, desk.corrections());
        desk.addRate(4, 0, 1, 1, 0, 0);
        expect.same("down to 1", -59, desk.correct());
        expect.same("it is 1", 1, desk.booked(0));
    }

    /** "for all calls that are booked and have a rate" */
    private static void correctedIfBooked() {
        Desk desk = new Desk();
        desk.addRate(4, 0, 60, 1, 0, 0);
        desk.record(0, 0, 4500, 0, 60);
        desk.book();
        desk.record(0, 1, 4600, 0, 60);
        desk.record(0, 2, 7000, 0, 60);
        desk.addRate(4, 0, 120, 1, 0, 0);
        expect.same("the booked one", 60, desk.correct());
        expect.refused("with a rate, not booked", desk, NO_SUCH, () -> desk.booked(1));
        expect.refused("without a rate", desk, NO_SUCH, () -> desk.booked(2));
        expect.same("one correction", 1, desk.corrections());
        expect.same("the other one is booked later", 1, desk.book());
        expect.same("at the price of now", 120, desk.booked(1));
    }

    /** "The offer [..] is the price for the longest prefix that fits it; it may have none." */
    private static void offersByPrefix() {
        Desk desk = new Desk();
        desk.offer(1, 450, 0);
        desk.offer(1, 4, 10000);
        desk.offer(1, 45, 7);
        desk.offer(1, 46000, 3);
        expect.same("three digits", 0, desk.offerFor(1, 45001));
        expect.same("two digits", 7, desk.offerFor(1, 45101));
        expect.same("one digit", 10000, desk.offerFor(1, 46001));
        expect.same("five digits", 3, desk.offerFor(1, 46000));
        expect.refused("none fits", desk, NO_SUCH, () -> desk.offerFor(1, 5000));
        expect.refused("another carrier has none", desk, NO_SUCH, () -> desk.offerFor(2, 45001));
        desk.offer(1, 450, -1);
        expect.same("the next longest", 7, desk.offerFor(1, 45001));
        desk.offer(1, 45, -1);
        expect.same("the last one", 10000, desk.offerFor(1, 45001));
        desk.offer(1, 4, -1);
        expect.refused("none is left", desk, NO_SUCH, () -> desk.offerFor(1, 45001));
        expect.same("but for another number", 3, desk.offerFor(1, 46000));
    }
}
