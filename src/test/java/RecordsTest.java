/** Promises 1 to 8: a new object, records and calls. */
public final class RecordsTest {
    private static final Class<IllegalArgumentException> ARGUMENT = IllegalArgumentException.class;
    private static final Class<IllegalStateException> STATE = IllegalStateException.class;
    private static final Class<IndexOutOfBoundsException> INDEX = IndexOutOfBoundsException.class;

    private static final Expect expect = new Expect("records");

    public static void main(String[] args) {
        newObject();
        setBound();
        boundHoldsFromNowOn();
        recordOutOfRange();
        recordAtItsEdges();
        doublesAreLeftOut();
        legsAreJoined();
        lowestCallIsJoined();
        firstLegDecides();
        sixtyCalls();
        gaps();
        gapsBetweenTwo();
        gapsOfWhatIsNotTaken();
        doubles();
        legs();
        length();
        desksAreApart();
        expect.end();
    }

    /** Promise 1. */
    private static void newObject() {
        Desk desk = new Desk();
        expect.same("calls", 0, desk.calls());
        expect.same("corrections", 0, desk.corrections());
        expect.same("book", 0, desk.book());
        expect.same("correct", 0, desk.correct());
        for (int i = 0; i < 3; i++) {
            expect.same("gaps", 0, desk.gaps(i));
            expect.same("doubles", 0, desk.doubles(i));
        }
        expect.refused("rateFor", desk, java.util.NoSuchElementException.class,
                () -> desk.rateFor(12345, 0));
        for (int i = 0; i < 4; i++) {
            int carrier = i;
            expect.refused("offerFor", desk, java.util.NoSuchElementException.class,
                    () -> desk.offerFor(carrier, 12345));
        }
        expect.same("the first call", 0, desk.record(0, 0, 12345, 0, 0));
        expect.same("the first rate", 0, desk.addRate(1, 0, 0, 1, 0, 0));
    }

    /** Promise 2. */
    private static void setBound() {
        Desk desk = new Desk();
        expect.same("the bound at first", 5, desk.setBound(100));
        expect.same("the bound before", 100, desk.setBound(0));
        expect.same("the bound before", 0, desk.setBound(7));
        for (int wrong : new int[] {-1, 101, Integer.MIN_VALUE, Integer.MAX_VALUE}) {
            expect.refused("setBound(" + wrong + ")", desk, ARGUMENT, () -> desk.setBound(wrong));
        }
        expect.same("the bound after the wrong ones", 7, desk.setBound(7));
    }

    private static void boundHoldsFromNowOn() {
        Desk desk = new Desk();
        desk.record(0, 0, 5000, 1000, 50);
        expect.same("6 apart, bound 5", 1, desk.record(1, 0, 5000, 1006, 50));
        desk.setBound(6);
        expect.same("6 apart, bound 6", 0, desk.record(1, 1, 5000, 1006, 50));
        desk.setBound(0);
        expect.same("1 apart, bound 0", 2, desk.record(2, 0, 5000, 1000, 51));
        expect.same("the same, bound 0", 0, desk.record(2, 1, 5000, 1000, 50));
        expect.same("joined legs stay", 7, desk.legs(0));
        desk.setBound(100);
        expect.same("100 apart, bound 100", 2, desk.record(0, 1, 5000, 1100, 151));
        expect.same("101 apart, bound 100", 3, desk.record(0, 2, 5000, 1107, 50));
    }

    /** Promise 3, the wrong inputs. */
    private static void recordOutOfRange() {
        Desk desk = new Desk();
        desk.record(0, 3, 4500, 5, 5);
        int[][] wrong = {
            {-1, 0, 4500, 0, 0}, {3, 0, 4500, 0, 0}, {Integer.MIN_VALUE, 0, 4500, 0, 0},
            {0, -1, 4500, 0, 0}, {0, 10000, 4500, 0, 0}, {0, Integer.MIN_VALUE, 4500, 0, 0},
            {0, 0, 999, 0, 0}, {0, 0, 100000000, 0, 0}, {0, 0, -4500, 0, 0},
            {0, 0, 4500, -1, 0}, {0, 0, 4500, 1000000, 0}, {0, 0, 4500, Integer.MIN_VALUE, 0},
            {0, 0, 4500, 0, -1}, {0, 0, 4500, 0, 10001}, {0, 0, 4500, 0, Integer.MAX_VALUE},
            // A wrong parameter is told before the double is.
            {0, 3, 0, 0, 0}, {0, 3, 4500, -1, 0},
        };
        for (int[] w : wrong) {
            expect.refused("record" + java.util.Arrays.toString(w), desk, ARGUMENT,
                    () -> desk.record(w[0], w[1], w[2], w[3], w[4]));
        }
    }

    private static void recordAtItsEdges() {
        Desk desk = new Desk();
        expect.same("the least record", 0, desk.record(0, 0, 1000, 0, 0));
        expect.same("the greatest record", 1, desk.record(2, 9999, 99999999, 999999, 10000));
        expect.same("length", 10000, desk.length(1));
        expect.same("5 before the greatest", 1, desk.record(1, 9999, 99999999, 999994, 9995));
    }

    private static void doublesAreLeftOut() {
        Desk desk = new Desk();
        expect.same("the record", 0, desk.record(1, 64, 4500, 100, 10));
        expect.same("the same again", -1, desk.record(1, 64, 4500, 100, 10));
        expect.same("another call under its number", -1, desk.record(1, 64, 7777, 9000, 99));
        expect.same("one call", 1, desk.calls());
        expect.same("its length", 10, desk.length(0));
        expect.same("the number of another switch", 0, desk.record(0, 64, 4500, 100, 12));
        expect.same("64 behind it", 1, desk.record(1, 128, 4500, 100, 10));
        expect.same("64 before it", 2, desk.record(1, 0, 4500, 100, 10));
        expect.same("32 behind it", 3, desk.record(1, 96, 4500, 100, 10));
        expect.same("8 behind it", 4, desk.record(1, 72, 4500, 100, 10));
        expect.same("the least number again", -1, desk.record(1, 0, 4500, 100, 10));
        expect.same("the greatest number", 5, desk.record(1, 9999, 4500, 100, 10));
        expect.same("the greatest number again", -1, desk.record(1, 9999, 4500, 100, 10));
    }

    private static void legsAreJoined() {
        Desk desk = new Desk();
        desk.record(0, 0, 12345, 1000, 60);
        expect.same("another number", 1, desk.record(1, 0, 12346, 1000, 60));
        expect.same("a number that begins alike", 2, desk.record(1, 1, 1234, 1000, 60));
        expect.same("begins 6 later", 3, desk.record(1, 2, 12345, 1006, 60));
        expect.same("begins 6 earlier", 4, desk.record(1, 3, 12345, 994, 60));
        expect.same("6 longer", 5, desk.record(1, 4, 12345, 1000, 66));
        expect.same("6 shorter", 6, desk.record(1, 5, 12345, 1000, 54));
        expect.same("the same switch", 7, desk.record(0, 1, 12345, 1000, 60));
        expect.same("5 later and 5 shorter", 0, desk.record(1, 6, 12345, 1005, 55));
        expect.same("5 earlier and 5 longer", 0, desk.record(2, 6, 12345, 995, 65));
        expect.same("calls", 8, desk.calls());
    }

    private static void lowestCallIsJoined() {
        Desk desk = new Desk();
        desk.record(0, 0, 12345, 1000, 60);
        desk.record(0, 1, 12345, 1001, 60);
        desk.record(0, 2, 12345, 1002, 60);
        expect.same("the lowest of three", 0, desk.record(1, 0, 12345, 1002, 60));
        expect.same("the lowest without a leg", 1, desk.record(1, 1, 12345, 1002, 60));
        expect.same("the lowest for another switch", 0, desk.record(2, 0, 12345, 1002, 60));
        expect.same("the last one left", 2, desk.record(1, 2, 12345, 1002, 60));
        expect.same("none is left", 3, desk.record(1, 3, 12345, 1002, 60));
    }

    private static void firstLegDecides() {
        Desk desk = new Desk();
        desk.record(1, 0, 12345, 1000, 60);
        expect.same("5 from the first", 0, desk.record(2, 0, 12345, 1005, 65));
        expect.same("1 from the second, 6 from the first", 1, desk.record(0, 0, 12345, 1006, 60));
        Desk other = new Desk();
        other.record(1, 0, 12345, 1000, 60);
        other.record(2, 0, 12345, 1000, 65);
        expect.same("1 from the length, 6 from the first's", 1,
                other.record(0, 0, 12345, 1000, 66));
    }

    private static void sixtyCalls() {
        Desk desk = new Desk();
        for (int i = 0; i < 60; i++) {
            expect.same("a new call", i, desk.record(0, i, 4500, 10000 + i * 100, 30));
        }
        expect.same("calls", 60, desk.calls());
        expect.refused("the 61st call", desk, STATE, () -> desk.record(1, 7, 4500, 0, 30));
        expect.refused("a wrong 61st call", desk, ARGUMENT, () -> desk.record(1, 7, 999, 0, 30));
        expect.same("a double needs no room", -1, desk.record(0, 59, 7777, 0, 0));
        expect.same("a leg needs no room", 59, desk.record(1, 7, 4500, 15900, 35));
        expect.same("its number counts now", -1, desk.record(1, 7, 4500, 15900, 35));
        expect.refused("length(60)", desk, INDEX, () -> desk.length(60));
    }

    /** Promise 4. */
    private static void gaps() {
        Desk desk = new Desk();
        desk.record(1, 9999, 4500, 0, 0);
        expect.same("one number", 0, desk.gaps(1));
        desk.record(1, 9999, 4500, 0, 0);
        expect.same("a double", 0, desk.gaps(1));
        desk.record(1, 9990, 4500, 0, 0);
        expect.same("an earlier one", 8, desk.gaps(1));
        desk.record(1, 9995, 4500, 0, 0);
        expect.same("one between", 7, desk.gaps(1));
        desk.record(1, 0, 4500, 0, 0);
        expect.same("the least one", 9996, desk.gaps(1));
        desk.record(1, 1, 4500, 0, 0);
        expect.same("the one behind it", 9995, desk.gaps(1));
        expect.same("another switch", 0, desk.gaps(0));
        desk.record(2, 100, 4500, 0, 0);
        desk.record(2, 101, 4500, 0, 0);
        expect.same("no gap", 0, desk.gaps(2));
        for (int wrong : new int[] {-1, 3, Integer.MIN_VALUE, Integer.MAX_VALUE}) {
            expect.refused("gaps(" + wrong + ")", desk, ARGUMENT, () -> desk.gaps(wrong));
        }
    }

    /** "those between the least and the greatest one", whichever came first. */
    private static void gapsBetweenTwo() {
        int[][] due = {{0, 1, 0}, {0, 2, 1}, {63, 64, 0}, {62, 64, 1}, {0, 63, 62}, {0, 64, 63},
            {64, 127, 62}, {9998, 9999, 0}, {9997, 9999, 1}, {0, 9999, 9998}, {1, 9999, 9997}};
        for (int[] d : due) {
            for (int source = 0; source < 3; source++) {
                Desk rising = new Desk();
                rising.record(source, d[0], 4500, 0, 0);
                rising.record(source, d[1], 4500, 0, 0);
                expect.same("from " + d[0] + " to " + d[1], d[2], rising.gaps(source));
                Desk falling = new Desk();
                falling.record(source, d[1], 4500, 0, 0);
                falling.record(source, d[0], 4500, 0, 0);
                expect.same("from " + d[1] + " to " + d[0], d[2], falling.gaps(source));
            }
        }
    }

    /** What is left out or refused has not been delivered, or not once more. */
    private static void gapsOfWhatIsNotTaken() {
        Desk desk = new Desk();
        desk.record(1, 10, 4500, 0, 0);
        desk.record(1, 20, 4500, 0, 0);
        desk.record(1, 10, 4500, 0, 0);
        desk.record(1, 20, 7000, 0, 0);
        expect.same("doubles", 9, desk.gaps(1));
        expect.refused("a wrong record", desk, ARGUMENT, () -> desk.record(1, 30, 999, 0, 0));
        expect.refused("a wrong double", desk, ARGUMENT, () -> desk.record(1, 10, 999, 0, 0));
        expect.same("after the wrong ones", 9, desk.gaps(1));
        expect.same("doubles after the wrong ones", 2, desk.doubles(1));
        expect.same("the number is still free", 2, desk.record(1, 30, 4500, 0, 0));
        expect.same("now it is delivered", 18, desk.gaps(1));
    }

    /** Promise 5. */
    private static void doubles() {
        Desk desk = new Desk();
        desk.record(2, 5, 4500, 0, 0);
        expect.same("none", 0, desk.doubles(2));
        desk.record(2, 5, 4500, 0, 0);
        desk.record(2, 5, 9999, 77, 0);
        expect.same("two", 2, desk.doubles(2));
        expect.same("another switch", 0, desk.doubles(0));
        desk.record(0, 5, 4500, 0, 0);
        expect.same("the same number elsewhere", 0, desk.doubles(0));
        desk.record(0, 5, 4500, 0, 0);
        expect.same("one elsewhere", 1, desk.doubles(0));
        expect.same("still two", 2, desk.doubles(2));
        for (int wrong : new int[] {-1, 3, Integer.MIN_VALUE, Integer.MAX_VALUE}) {
            expect.refused("doubles(" + wrong + ")", desk, ARGUMENT, () -> desk.doubles(wrong));
        }
    }

    /** Promises 6 and 7. */
    private static void legs() {
        Desk desk = new Desk();
        desk.record(0, 0, 4500, 0, 0);
        desk.record(1, 0, 4600, 0, 0);
        desk.record(2, 0, 4700, 0, 0);
        expect.same("calls", 3, desk.calls());
        expect.same("the switch 0", 1, desk.legs(0));
        expect.same("the switch 1", 2, desk.legs(1));
        expect.same("the switch 2", 4, desk.legs(2));
        desk.record(2, 1, 4500, 0, 0);
        expect.same("two legs", 5, desk.legs(0));
        desk.record(1, 1, 4500, 0, 0);
        expect.same("three legs", 7, desk.legs(0));
        expect.same("calls after the legs", 3, desk.calls());
        for (int wrong : new int[] {-1, 3, 60, Integer.MIN_VALUE, Integer.MAX_VALUE}) {
            expect.refused("legs(" + wrong + ")", desk, INDEX, () -> desk.legs(wrong));
        }
    }

    /** Promise 8. */
    private static void length() {
        Desk desk = new Desk();
        desk.record(0, 0, 4500, 0, 50);
        expect.same("one leg", 50, desk.length(0));
        desk.record(1, 0, 4500, 0, 45);
        expect.same("a shorter leg", 50, desk.length(0));
        desk.record(2, 0, 4500, 0, 55);
        expect.same("a longer leg", 55, desk.length(0));
        desk.record(0, 1, 4500, 0, 0);
        expect.same("no seconds", 0, desk.length(1));
        for (int wrong : new int[] {-1, 2, 60, Integer.MIN_VALUE, Integer.MAX_VALUE}) {
            expect.refused("length(" + wrong + ")", desk, INDEX, () -> desk.length(wrong));
        }
    }

    private static void desksAreApart() {
        Desk one = new Desk();
        Desk other = new Desk();
        one.record(0, 0, 4500, 0, 50);
        one.record(0, 0, 4500, 0, 50);
        one.addRate(4, 0, 60, 1, 0, 0);
        one.offer(0, 4, 1);
        one.setBound(50);
        expect.look("a desk beside a used one", Outcome.stateOf(new Desk()),
                Outcome.stateOf(other));
    }
}
