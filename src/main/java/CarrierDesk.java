import java.util.NoSuchElementException;

/**
 * A carrier's desk for calls: records come from three switches, doubles are left out and gaps in
 * their numbers told, legs of one call are joined across switches whose clocks differ, calls are
 * charged by the rate with the longest prefix that is in force on their day, bookings are corrected
 * when tariffs come late, routes are chosen by cost, and the claims of another carrier are narrowed
 * down to prefixes and calls.
 */
public final class CarrierDesk {
    private static final int NONE = -1;
    private static final int DOUBLE = -1;

    private static final int SOURCES = 3;
    private static final int MAX_CALLS = 60;
    private static final int MAX_RATES = 30;
    private static final int CARRIERS = 4;
    private static final int MAX_OFFERS = 10;

    private static final int MIN_NUMBER = 1000;
    private static final int MAX_NUMBER = 99999999;
    private static final int NUMBER_DIGITS = 8;
    private static final int MIN_PREFIX = 1;
    private static final int MAX_PREFIX = 99999;
    private static final int PREFIX_DIGITS = 5;
    private static final int MAX_TIME = 999999;
    private static final int DAY_SECONDS = 1000;
    private static final int MAX_DAY = 999;
    private static final int MAX_SEQUENCE = 9999;
    private static final int MAX_SECONDS = 10000;
    private static final int FIRST_BOUND = 5;
    private static final int MAX_BOUND = 100;
    private static final int MAX_PRICE = 10000;
    private static final int MINUTE = 60;
    private static final int MAX_STEP = 60;
    private static final int MAX_LEAST = 120;
    private static final int MAX_FEE = 1000;
    private static final int MAX_CLAIM = 1000000;

    private final Source[] sources = new Source[SOURCES];
    private final Call[] calls = new Call[MAX_CALLS];
    private int callCount;
    private int bound = FIRST_BOUND;
    private final Rate[] rates = new Rate[MAX_RATES];
    private int rateCount;
    private int changedBookings;
    private final Carrier[] carriers = new Carrier[CARRIERS];

    public CarrierDesk() {
        for (int i = 0; i < sources.length; i++) {
            sources[i] = new Source();
        }
        for (int i = 0; i < carriers.length; i++) {
            carriers[i] = new Carrier();
        }
    }

    // ---- records and calls

    public int setBound(int seconds) throws IllegalArgumentException {
        if (!within(seconds, 0, MAX_BOUND)) {
            throw new IllegalArgumentException("the bound is out of range");
        }
        int before = bound;
        bound = seconds;
        return before;
    }

    public int record(int source, int sequence, int number, int begin, int seconds)
            throws IllegalArgumentException, IllegalStateException {
        Source from = sourceAt(source);
        if (from == null || !within(sequence, 0, MAX_SEQUENCE) || !isNumber(number)
                || !within(begin, 0, MAX_TIME) || !within(seconds, 0, MAX_SECONDS)) {
            throw new IllegalArgumentException("a parameter of the record is out of range");
        }
        if (from.has(sequence)) {
            from.doubleCount++;
            return DOUBLE;
        }
        Call call = callJoinedBy(source, number, begin, seconds);
        if (call == null) {
            call = newCall(number, begin, seconds);
        }
        if (call == null) {
            throw new IllegalStateException("there are 60 calls");
        }
        from.add(sequence);
        call.addLeg(source, seconds);
        return call.id;
    }

    public int gaps(int source) throws IllegalArgumentException {
        Source from = sourceAt(source);
        if (from == null) {
            throw new IllegalArgumentException("no such switch");
        }
        return from.missing();
    }

    public int doubles(int source) throws IllegalArgumentException {
        Source from = sourceAt(source);
        if (from == null) {
            throw new IllegalArgumentException("no such switch");
        }
        return from.doubleCount;
    }

    public int calls() {
        return callCount;
    }

    public int legs(int call) throws IndexOutOfBoundsException {
        Call asked = callAt(call);
        if (asked == null) {
            throw new IndexOutOfBoundsException("no such call");
        }
        return asked.sourceBits;
    }

    public int length(int call) throws IndexOutOfBoundsException {
        Call asked = callAt(call);
        if (asked == null) {
            throw new IndexOutOfBoundsException("no such call");
        }
        return asked.seconds;
    }

    // ---- rates and charges

    public int addRate(int prefix, int day, int price, int step, int least, int fee)
            throws IllegalArgumentException, IllegalStateException {
        if (!isPrefix(prefix) || !isDay(day) || !within(price, 0, MAX_PRICE)
                || !within(step, 1, MAX_STEP) || !within(least, 0, MAX_LEAST)
                || !within(fee, 0, MAX_FEE)) {
            throw new IllegalArgumentException("a parameter of the rate is out of range");
        }
        int id = rateCount;
        if (id >= rates.length) {
            throw new IllegalStateException("30 rates were added");
        }
        rates[id] = new Rate(id, prefix, day, price, step, least, fee);
        rateCount++;
        return id;
    }

    public int rateFor(int number, int day)
            throws IllegalArgumentException, NoSuchElementException {
        if (!isNumber(number) || !isDay(day)) {
            throw new IllegalArgumentException("the number or the day is out of range");
        }
        Rate rate = rateInForce(number, day);
        if (rate == null) {
            throw new NoSuchElementException("no rate for the number on the day");
        }
        return rate.id;
    }

    public int charge(int call) throws IndexOutOfBoundsException, NoSuchElementException {
        Call asked = callAt(call);
        if (asked == null) {
            throw new IndexOutOfBoundsException("no such call");
        }
        int amount = chargeNow(asked);
        if (amount == NONE) {
            throw new NoSuchElementException("no rate for the call");
        }
        return amount;
    }

    public int book() {
        int count = 0;
        for (Call call : calls) {
            if (call != null && !call.isBooked()) {
                call.bookedAmount = chargeNow(call);
                count += call.isBooked() ? 1 : 0;
            }
        }
        return count;
    }

    public int booked(int call) throws IndexOutOfBoundsException, NoSuchElementException {
        Call asked = callAt(call);
        if (asked == null) {
            throw new IndexOutOfBoundsException("no such call");
        }
        if (!asked.isBooked()) {
            throw new NoSuchElementException("the call is not booked");
        }
        return asked.bookedAmount;
    }

    public int correct() {
        int sum = 0;
        for (Call call : calls) {
            if (call != null && call.isBooked()) {
                sum += changeByCorrecting(call);
            }
        }
        return sum;
    }

    public int corrections() {
        return changedBookings;
    }

    public int total(int prefix) throws IllegalArgumentException {
        if (!isPrefix(prefix)) {
            throw new IllegalArgumentException("the prefix is out of range");
        }
        int sum = 0;
        for (Call call : calls) {
            if (call != null && fits(prefix, call.number)) {
                sum += call.bookedOrZero();
            }
        }
        return sum;
    }

    // ---- routes

    public int offer(int carrier, int prefix, int price)
            throws IllegalArgumentException, IllegalStateException {
        Carrier offering = carrierAt(carrier);
        if (offering == null || !isPrefix(prefix) || !within(price, NONE, MAX_PRICE)) {
            throw new IllegalArgumentException("a parameter of the offer is out of range");
        }
        if (price != NONE && !offering.hasPlaceFor(prefix)) {
            throw new IllegalStateException("the carrier offers 10 prices");
        }
        return offering.replacePrice(prefix, price);
    }

    public int offerFor(int carrier, int number)
            throws IllegalArgumentException, NoSuchElementException {
        Carrier offering = carrierAt(carrier);
        if (offering == null || !isNumber(number)) {
            throw new IllegalArgumentException("the carrier or the number is out of range");
        }
        int price = offering.priceFor(number);
        if (price == NONE) {
            throw new NoSuchElementException("the carrier has no offer for the number");
        }
        return price;
    }

    public int route(int number, int day, int margin, int rank)
            throws IllegalArgumentException, NoSuchElementException {
        if (!isNumber(number) || !isDay(day) || !within(margin, 0, MAX_PRICE) || rank < 0) {
            throw new IllegalArgumentException("a parameter of the route is out of range");
        }
        Rate rate = rateInForce(number, day);
        if (rate == null) {
            throw new NoSuchElementException("no rate for the number on the day");
        }
        int carrier = carrierOfRank(number, rate.price - margin, rank);
        if (carrier == NONE) {
            throw new NoSuchElementException("no such carrier");
        }
        return carrier;
    }

    // ---- claims

    public int claim(int call, int amount)
            throws IndexOutOfBoundsException, IllegalArgumentException {
        Call asked = callAt(call);
        if (asked == null) {
            throw new IndexOutOfBoundsException("no such call");
        }
        if (!within(amount, 0, MAX_CLAIM)) {
            throw new IllegalArgumentException("the amount is out of range");
        }
        int before = asked.claimed;
        asked.claimed = amount;
        return before;
    }

    public int difference(int prefix) throws IllegalArgumentException {
        if (!isPrefix(prefix)) {
            throw new IllegalArgumentException("the prefix is out of range");
        }
        return differenceUnder(prefix);
    }

    public int narrow(int digits) throws IllegalArgumentException {
        if (!within(digits, 1, PREFIX_DIGITS)) {
            throw new IllegalArgumentException("the number of digits is out of range");
        }
        int prefix = 0;
        for (int i = 0; i < digits; i++) {
            prefix = withWorstDigit(prefix);
        }
        return prefix;
    }

    public int worst() throws NoSuchElementException {
        Call worst = null;
        for (Call call : calls) {
            if (call != null && (worst == null
                    || Math.abs(call.disputed()) > Math.abs(worst.disputed()))) {
                worst = call;
            }
        }
        if (worst == null) {
            throw new NoSuchElementException("there are no calls");
        }
        return worst.id;
    }

    // ---- ranges, numbers and prefixes

    private static boolean within(int value, int least, int greatest) {
        return value >= least && value <= greatest;
    }

    private static boolean isNumber(int number) {
        return within(number, MIN_NUMBER, MAX_NUMBER);
    }

    private static boolean isPrefix(int prefix) {
        return within(prefix, MIN_PREFIX, MAX_PREFIX);
    }

    private static boolean isDay(int day) {
        return within(day, 0, MAX_DAY);
    }

    private static boolean fits(int prefix, int number) {
        int head = number;
        for (int dropped = 0; dropped < NUMBER_DIGITS && head > prefix; dropped++) {
            head /= 10;
        }
        return head == prefix;
    }

    // ---- what is asked for by its number; null if there is no such thing

    private Source sourceAt(int source) {
        return source >= 0 && source < sources.length ? sources[source] : null;
    }

    private Call callAt(int call) {
        return call >= 0 && call < calls.length ? calls[call] : null;
    }

    private Carrier carrierAt(int carrier) {
        return carrier >= 0 && carrier < carriers.length ? carriers[carrier] : null;
    }

    // ---- helpers for calls

    private Call callJoinedBy(int source, int number, int begin, int seconds) {
        for (Call call : calls) {
            if (call != null && call.number == number && !call.hasLegFrom(source)
                    && call.beganWithin(bound, begin, seconds)) {
                return call;
            }
        }
        return null;
    }

    /** Null if there is no room for a call more. */
    private Call newCall(int number, int begin, int seconds) {
        int id = callCount;
        if (id >= calls.length) {
            return null;
        }
        Call call = new Call(id, number, begin, seconds);
        calls[id] = call;
        callCount++;
        return call;
    }

    // ---- helpers for rates and charges

    /** Null if there is none. */
    private Rate rateInForce(int number, int day) {
        Rate best = null;
        for (Rate rate : rates) {
            if (rate != null && rate.day <= day && fits(rate.prefix, number)
                    && (best == null || rate.goesBefore(best))) {
                best = rate;
            }
        }
        return best;
    }

    /** NONE if the call has no rate. */
    private int chargeNow(Call call) {
        Rate rate = rateInForce(call.number, call.day());
        return rate == null ? NONE : rate.chargeFor(call.seconds);
    }

    private int changeByCorrecting(Call call) {
        int amount = chargeNow(call);
        if (amount == NONE || amount == call.bookedAmount) {
            return 0;
        }
        int change = amount - call.bookedAmount;
        call.bookedAmount = amount;
        changedBookings++;
        return change;
    }

    // ---- helpers for routes

    /** NONE if there are not so many carriers whose offer is at most the limit. */
    private int carrierOfRank(int number, int limit, int rank) {
        for (int i = 0; i < carriers.length; i++) {
            int price = priceOf(i, number);
            // Whoever goes before an offer within the limit is within it too.
            if (price != NONE && price <= limit && carriersBefore(i, price, number) == rank) {
                return i;
            }
        }
        return NONE;
    }

    private int carriersBefore(int carrier, int price, int number) {
        int count = 0;
        for (int i = 0; i < carriers.length; i++) {
            int other = priceOf(i, number);
            if (other != NONE && (other < price || other == price && i < carrier)) {
                count++;
            }
        }
        return count;
    }

    /** NONE if the carrier has no offer for the number. */
    private int priceOf(int carrier, int number) {
        Carrier offering = carrierAt(carrier);
        return offering == null ? NONE : offering.priceFor(number);
    }

    // ---- helpers for claims

    private int differenceUnder(int prefix) {
        int sum = 0;
        for (Call call : calls) {
            if (call != null && fits(prefix, call.number)) {
                sum += call.disputed();
            }
        }
        return sum;
    }

    private int withWorstDigit(int prefix) {
        int worst = 0;
        int greatest = NONE;
        // A prefix does not begin with 0.
        for (int digit = prefix == 0 ? 1 : 0; digit <= 9; digit++) {
            int longer = prefix * 10 + digit;
            int size = Math.abs(differenceUnder(longer));
            if (size > greatest) {
                greatest = size;
                worst = longer;
            }
        }
        return worst;
    }

    /** What one switch has delivered. */
    private static final class Source {
        private static final int WORD_BITS = 64;

        // One bit a sequence number: rows of booleans would take much room for few records.
        private final long[] delivered = new long[MAX_SEQUENCE / WORD_BITS + 1];
        private int deliveredCount;
        private int least = MAX_SEQUENCE;
        private int greatest;
        int doubleCount;

        boolean has(int sequence) {
            int word = sequence / WORD_BITS;
            return sequence >= 0 && word < delivered.length
                    && (delivered[word] & bitOf(sequence)) != 0;
        }

        void add(int sequence) {
            int word = sequence / WORD_BITS;
            if (sequence < 0 || word >= delivered.length) {
                return;
            }
            delivered[word] |= bitOf(sequence);
            deliveredCount++;
            least = Math.min(least, sequence);
            greatest = Math.max(greatest, sequence);
        }

        int missing() {
            return deliveredCount == 0 ? 0 : greatest - least + 1 - deliveredCount;
        }

        private static long bitOf(int sequence) {
            return 1L << sequence % WORD_BITS;
        }
    }

    /** A call with its booking and its claim. */
    private static final class Call {
        final int id;
        final int number;
        private final int firstBegin;
        private final int firstSeconds;
        int sourceBits;
        int seconds;
        int bookedAmount = NONE;
        int claimed;

        Call(int id, int number, int begin, int seconds) {
            this.id = id;
            this.number = number;
            this.firstBegin = begin;
            this.firstSeconds = seconds;
        }

        boolean hasLegFrom(int source) {
            return (sourceBits & 1 << source) != 0;
        }

        boolean beganWithin(int bound, int begin, int seconds) {
            return Math.abs(begin - firstBegin) <= bound
                    && Math.abs(seconds - firstSeconds) <= bound;
        }

        void addLeg(int source, int legSeconds) {
            sourceBits |= 1 << source;
            seconds = Math.max(seconds, legSeconds);
        }

        int day() {
            return firstBegin / DAY_SECONDS;
        }

        boolean isBooked() {
            return bookedAmount != NONE;
        }

        int bookedOrZero() {
            return isBooked() ? bookedAmount : 0;
        }

        int disputed() {
            return claimed - bookedOrZero();
        }
    }

    private static final class Rate {
        final int id;
        final int prefix;
        final int day;
        final int price;
        private final int step;
        private final int least;
        private final int fee;

        Rate(int id, int prefix, int day, int price, int step, int least, int fee) {
            this.id = id;
            this.prefix = prefix;
            this.day = day;
            this.price = price;
            this.step = step;
            this.least = least;
            this.fee = fee;
        }

        /** For two rates that fit the same number and are in force on the same day. */
        boolean goesBefore(Rate other) {
            // Of two prefixes that fit one number the greater one is the longer one.
            if (prefix != other.prefix) {
                return prefix > other.prefix;
            }
            return day != other.day ? day > other.day : id > other.id;
        }

        int chargeFor(int seconds) {
            int charged = Math.max(quotientUp(seconds, step) * step, least);
            return fee + quotientUp(price * charged, MINUTE);
        }

        private static int quotientUp(int amount, int unit) {
            // No rate has a step below 1; looked at here as well, where the division stands.
            return unit < 1 ? 0 : (amount + unit - 1) / unit;
        }
    }

    /** The offers of one carrier. */
    private static final class Carrier {
        private static final int FREE = 0;

        // The prefix at a place where nothing is offered is FREE, which fits no number.
        private final int[] prefixes = new int[MAX_OFFERS];
        private final int[] prices = new int[MAX_OFFERS];

        boolean hasPlaceFor(int prefix) {
            return placeOf(prefix) != NONE || placeOf(FREE) != NONE;
        }

        /** Answers the price before; a new price that finds no place is left out. */
        int replacePrice(int prefix, int price) {
            int place = placeOf(prefix);
            int before = place == NONE ? NONE : prices[place];
            if (place == NONE) {
                place = placeOf(FREE);
            }
            if (place != NONE) {
                prefixes[place] = price == NONE ? FREE : prefix;
                prices[place] = price;
            }
            return before;
        }

        /** NONE if no prefix fits the number. */
        int priceFor(int number) {
            int longest = FREE;
            int price = NONE;
            for (int i = 0; i < MAX_OFFERS; i++) {
                if (prefixes[i] > longest && fits(prefixes[i], number)) {
                    longest = prefixes[i];
                    price = prices[i];
                }
            }
            return price;
        }

        private int placeOf(int prefix) {
            for (int i = 0; i < MAX_OFFERS; i++) {
                if (prefixes[i] == prefix) {
                    return i;
                }
            }
            return NONE;
        }
    }
}
