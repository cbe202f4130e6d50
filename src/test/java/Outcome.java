/** Answers as texts: the number, or the name of the exception's class. */
final class Outcome {
    private static final int[] NUMBERS = {1000, 1234, 2000, 4500, 12345, 12999, 45001, 99999999};
    private static final int[] DAYS = {0, 1, 2, 500, 999};
    private static final int NEW_NUMBER = 88888888;

    private interface View {
        void look(StringBuilder all, Desk desk);
    }

    // Each looks at a desk of its own, so it may change it to see what is hidden otherwise.
    private static final View[] VIEWS = {
        Outcome::putSums, Outcome::putCalls, Outcome::putClaims, Outcome::putRatesAndOffers,
        Outcome::putDelivered, Outcome::putRoomLeft,
    };

    private Outcome() {
    }

    static String of(Expect.Asked asked) {
        try {
            return Integer.toString(asked.answer());
        } catch (RuntimeException e) {
            return e.getClass().getName();
        }
    }

    /** All that can be seen of a desk, which is itself not asked. */
    static String stateOf(Desk desk) {
        StringBuilder all = new StringBuilder();
        for (View view : VIEWS) {
            view.look(all, desk.again());
        }
        return all.toString();
    }

    private static void putSums(StringBuilder all, Desk desk) {
        put(all, "calls", desk::calls);
        put(all, "bound", () -> desk.setBound(0));
        put(all, "corrections", desk::corrections);
        put(all, "worst", desk::worst);
        for (int i = 0; i < 3; i++) {
            int source = i;
            put(all, "gaps", () -> desk.gaps(source));
            put(all, "doubles", () -> desk.doubles(source));
        }
        for (int i = 1; i <= 99; i++) {
            int prefix = i;
            put(all, "total", () -> desk.total(prefix));
            put(all, "difference", () -> desk.difference(prefix));
        }
    }

    private static void putCalls(StringBuilder all, Desk desk) {
        int calls = desk.calls();
        for (int i = 0; i < calls; i++) {
            int call = i;
            put(all, "legs", () -> desk.legs(call));
            put(all, "length", () -> desk.length(call));
            put(all, "charge", () -> desk.charge(call));
            put(all, "booked", () -> desk.booked(call));
        }
    }

    private static void putClaims(StringBuilder all, Desk desk) {
        int calls = desk.calls();
        for (int i = 0; i < calls; i++) {
            int call = i;
            put(all, "claim", () -> desk.claim(call, 0));
        }
        put(all, "correct", desk::correct);
        put(all, "book", desk::book);
    }

    private static void putRatesAndOffers(StringBuilder all, Desk desk) {
        for (int number : NUMBERS) {
            for (int day : DAYS) {
                put(all, "rateFor", () -> desk.rateFor(number, day));
                put(all, "route", () -> desk.route(number, day, 0, 0));
            }
            for (int i = 0; i < 4; i++) {
                int carrier = i;
                put(all, "offerFor", () -> desk.offerFor(carrier, number));
            }
        }
    }

    private static void putDelivered(StringBuilder all, Desk desk) {
        for (int i = 0; i < 24; i++) {
            // 0 to 11 and 9988 to 9999.
            int sequence = i < 12 ? i : 9976 + i;
            for (int j = 0; j < 3; j++) {
                int source = j;
                put(all, "record", () -> desk.record(source, sequence, NEW_NUMBER, 0, 0));
            }
        }
    }

    private static void putRoomLeft(StringBuilder all, Desk desk) {
        for (int i = 0; i < 31; i++) {
            put(all, "addRate", () -> desk.addRate(9, 0, 0, 1, 0, 0));
        }
        for (int i = 0; i < 44; i++) {
            int carrier = i / 11;
            int prefix = 88000 + i;
            put(all, "offer", () -> desk.offer(carrier, prefix, 0));
        }
    }

    private static void put(StringBuilder all, String name, Expect.Asked asked) {
        all.append(name).append('=').append(of(asked)).append(' ');
    }
}
