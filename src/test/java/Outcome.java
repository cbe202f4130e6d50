/** Answers as texts: the number, or the name of the exception's class. */
final class Outcome {
    private static final int[] NUMBERS = {1000, 1234, 2000, 4500, 12345, 12999, 45001, 99999999};

    private Outcome() {
    }

    static String of(Expect.Asked asked) {
        try {
            return Integer.toString(asked.answer());
        } catch (RuntimeException e) {
            return e.getClass().getName();
        }
    }

    /** All that can be seen of a desk; what it must set for that it sets back. */
    static String stateOf(CarrierDesk desk) {
        StringBuilder all = new StringBuilder();
        int bound = desk.setBound(0);
        desk.setBound(bound);
        put(all, "bound", Integer.toString(bound));
        put(all, "calls", of(desk::calls));
        put(all, "corrections", of(desk::corrections));
        put(all, "worst", of(desk::worst));
        for (int i = 0; i < 3; i++) {
            int source = i;
            put(all, "gaps", of(() -> desk.gaps(source)));
            put(all, "doubles", of(() -> desk.doubles(source)));
        }
        for (int i = 0; i < desk.calls(); i++) {
            putCall(all, desk, i);
        }
        for (int i = 1; i <= 99; i++) {
            int prefix = i;
            put(all, "total", of(() -> desk.total(prefix)));
            put(all, "difference", of(() -> desk.difference(prefix)));
        }
        for (int number : NUMBERS) {
            putNumber(all, desk, number);
        }
        return all.toString();
    }

    private static void putCall(StringBuilder all, CarrierDesk desk, int call) {
        put(all, "legs", of(() -> desk.legs(call)));
        put(all, "length", of(() -> desk.length(call)));
        put(all, "charge", of(() -> desk.charge(call)));
        put(all, "booked", of(() -> desk.booked(call)));
        int claimed = desk.claim(call, 0);
        desk.claim(call, claimed);
        put(all, "claimed", Integer.toString(claimed));
    }

    private static void putNumber(StringBuilder all, CarrierDesk desk, int number) {
        for (int day : new int[] {0, 1, 2, 500, 999}) {
            put(all, "rateFor", of(() -> desk.rateFor(number, day)));
            put(all, "route", of(() -> desk.route(number, day, 0, 0)));
        }
        for (int i = 0; i < 4; i++) {
            int carrier = i;
            put(all, "offerFor", of(() -> desk.offerFor(carrier, number)));
        }
    }

    private static void put(StringBuilder all, String name, String answer) {
        all.append(name).append('=').append(answer).append(' ');
    }
}
