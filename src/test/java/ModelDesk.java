import java.util.ArrayList;
import java.util.Comparator;
import java.util.HashSet;
import java.util.List;
import java.util.Map;
import java.util.NoSuchElementException;
import java.util.Set;
import java.util.TreeMap;
import java.util.TreeSet;

/**
 * The document told once more, with numbers as texts and with the collections of the Java library,
 * so that a slip in the class is not likely to stand here as well.
 */
final class ModelDesk {
    private static final class Call {
        final Set<Integer> switches = new TreeSet<>();
        final List<Integer> lengths = new ArrayList<>();
        int number;
        int begin;
        Integer booked;
        int claimed;

        int length() {
            return lengths.stream().max(Comparator.naturalOrder()).orElseThrow();
        }

        int owed() {
            return claimed - (booked == null ? 0 : booked);
        }
    }

    private record Rate(String prefix, int day, int price, int step, int least, int fee) {
    }

    private final List<Call> calls = new ArrayList<>();
    private final List<Rate> rates = new ArrayList<>();
    private final List<TreeSet<Integer>> delivered = new ArrayList<>();
    private final int[] doubles = new int[3];
    private final List<Map<String, Integer>> offers = new ArrayList<>();
    private int bound = 5;
    private int corrections;

    ModelDesk() {
        for (int i = 0; i < 3; i++) {
            delivered.add(new TreeSet<>());
        }
        for (int i = 0; i < 4; i++) {
            offers.add(new TreeMap<>());
        }
    }

    private static void in(int value, int least, int greatest) {
        if (value < least || value > greatest) {
            throw new IllegalArgumentException();
        }
    }

    private static void number(int number) {
        in(number, 1000, 99999999);
    }

    private static boolean fits(String prefix, int number) {
        return Integer.toString(number).startsWith(prefix);
    }

    private static int up(int amount, int unit) {
        return amount / unit + (amount % unit == 0 ? 0 : 1);
    }

    private Call call(int call) {
        if (call < 0 || call >= calls.size()) {
            throw new IndexOutOfBoundsException();
        }
        return calls.get(call);
    }

    int setBound(int seconds) {
        in(seconds, 0, 100);
        int before = bound;
        bound = seconds;
        return before;
    }

    int record(int source, int sequence, int number, int begin, int seconds) {
        in(source, 0, 2);
        in(sequence, 0, 9999);
        number(number);
        in(begin, 0, 999999);
        in(seconds, 0, 10000);
        if (delivered.get(source).contains(sequence)) {
            doubles[source]++;
            return -1;
        }
        int found = 0;
        while (found < calls.size() && !joins(calls.get(found), source, number, begin, seconds)) {
            found++;
        }
        if (found == 60) {
            throw new IllegalStateException();
        }
        if (found == calls.size()) {
            Call call = new Call();
            call.number = number;
            call.begin = begin;
            calls.add(call);
        }
        delivered.get(source).add(sequence);
        calls.get(found).switches.add(source);
        calls.get(found).lengths.add(seconds);
        return found;
    }

    private boolean joins(Call call, int source, int number, int begin, int seconds) {
        int later = begin - call.begin;
        int longer = seconds - call.lengths.get(0);
        return call.number == number && !call.switches.contains(source)
                && -bound <= later && later <= bound && -bound <= longer && longer <= bound;
    }

    int gaps(int source) {
        in(source, 0, 2);
        TreeSet<Integer> had = delivered.get(source);
        int missing = 0;
        for (int i = had.isEmpty() ? 0 : had.first(); !had.isEmpty() && i < had.last(); i++) {
            missing += had.contains(i) ? 0 : 1;
        }
        return missing;
    }

    int doubles(int source) {
        in(source, 0, 2);
        return doubles[source];
    }

    int calls() {
        return calls.size();
    }

    int legs(int call) {
        int sum = 0;
        for (int source : call(call).switches) {
            sum += source == 0 ? 1 : source == 1 ? 2 : 4;
        }
        return sum;
    }

    int length(int call) {
        return call(call).length();
    }

    int addRate(int prefix, int day, int price, int step, int least, int fee) {
        in(prefix, 1, 99999);
        in(day, 0, 999);
        in(price, 0, 10000);
        in(step, 1, 60);
        in(least, 0, 120);
        in(fee, 0, 1000);
        if (rates.size() == 30) {
            throw new IllegalStateException();
        }
        rates.add(new Rate(Integer.toString(prefix), day, price, step, least, fee));
        return rates.size() - 1;
    }

    int rateFor(int number, int day) {
        number(number);
        in(day, 0, 999);
        String head = Integer.toString(number);
        for (int digits = Math.min(5, head.length()); digits > 0; digits--) {
            int inForce = inForce(head.substring(0, digits), day);
            if (inForce >= 0) {
                return inForce;
            }
        }
        throw new NoSuchElementException();
    }

    private int inForce(String prefix, int day) {
        for (int from = day; from >= 0; from--) {
            for (int i = rates.size() - 1; i >= 0; i--) {
                if (rates.get(i).prefix().equals(prefix) && rates.get(i).day() == from) {
                    return i;
                }
            }
        }
        return -1;
    }

    int charge(int call) {
        Call asked = call(call);
        Rate rate = rates.get(rateFor(asked.number, asked.begin / 1000));
        int length = up(asked.length(), rate.step()) * rate.step();
        return rate.fee() + up(rate.price() * (length < rate.least() ? rate.least() : length), 60);
    }

    private Integer chargeOrNull(int call) {
        try {
            return charge(call);
        } catch (NoSuchElementException e) {
            return null;
        }
    }

    int book() {
        int count = 0;
        for (int i = 0; i < calls.size(); i++) {
            if (calls.get(i).booked == null && chargeOrNull(i) != null) {
                calls.get(i).booked = charge(i);
                count++;
            }
        }
        return count;
    }

    int booked(int call) {
        Call asked = call(call);
        if (asked.booked == null) {
            throw new NoSuchElementException();
        }
        return asked.booked;
    }

    int correct() {
        int before = 0;
        int after = 0;
        for (int i = 0; i < calls.size(); i++) {
            Call call = calls.get(i);
            if (call.booked != null && chargeOrNull(i) != null) {
                before += call.booked;
                after += charge(i);
                corrections += call.booked == charge(i) ? 0 : 1;
                call.booked = charge(i);
            }
        }
        return after - before;
    }

    int corrections() {
        return corrections;
    }

    int total(int prefix) {
        in(prefix, 1, 99999);
        return calls.stream().filter(c -> fits("" + prefix, c.number) && c.booked != null)
                .mapToInt(c -> c.booked).sum();
    }

    int offer(int carrier, int prefix, int price) {
        in(carrier, 0, 3);
        in(prefix, 1, 99999);
        in(price, -1, 10000);
        Map<String, Integer> own = offers.get(carrier);
        Integer before = own.get("" + prefix);
        if (price == -1) {
            own.remove("" + prefix);
        } else if (before == null && own.size() == 10) {
            throw new IllegalStateException();
        } else {
            own.put("" + prefix, price);
        }
        return before == null ? -1 : before;
    }

    int offerFor(int carrier, int number) {
        in(carrier, 0, 3);
        number(number);
        String head = Integer.toString(number);
        for (int digits = head.length(); digits > 0; digits--) {
            Integer price = offers.get(carrier).get(head.substring(0, digits));
            if (price != null) {
                return price;
            }
        }
        throw new NoSuchElementException();
    }

    int route(int number, int day, int margin, int rank) {
        number(number);
        in(day, 0, 999);
        in(margin, 0, 10000);
        in(rank, 0, Integer.MAX_VALUE);
        int limit = rates.get(rateFor(number, day)).price() - margin;
        List<Integer> carriers = new ArrayList<>();
        for (int price = 0; price <= limit; price++) {
            for (int carrier = 0; carrier < 4; carrier++) {
                if (offersAt(carrier, number, price)) {
                    carriers.add(carrier);
                }
            }
        }
        if (rank >= carriers.size()) {
            throw new NoSuchElementException();
        }
        return carriers.get(rank);
    }

    private boolean offersAt(int carrier, int number, int price) {
        try {
            return offerFor(carrier, number) == price;
        } catch (NoSuchElementException e) {
            return false;
        }
    }

    int claim(int call, int amount) {
        Call asked = call(call);
        in(amount, 0, 1000000);
        int before = asked.claimed;
        asked.claimed = amount;
        return before;
    }

    int difference(int prefix) {
        in(prefix, 1, 99999);
        return calls.stream().filter(c -> fits("" + prefix, c.number)).mapToInt(Call::owed).sum();
    }

    int narrow(int digits) {
        in(digits, 1, 5);
        String prefix = "";
        while (prefix.length() < digits) {
            String best = null;
            for (char digit = prefix.isEmpty() ? '1' : '0'; digit <= '9'; digit++) {
                String longer = prefix + digit;
                if (best == null || size(longer) > size(best)) {
                    best = longer;
                }
            }
            prefix = best;
        }
        return Integer.parseInt(prefix);
    }

    private int size(String prefix) {
        return Math.abs(difference(Integer.parseInt(prefix)));
    }

    int worst() {
        if (calls.isEmpty()) {
            throw new NoSuchElementException();
        }
        int most = calls.stream().mapToInt(c -> Math.abs(c.owed())).max().orElseThrow();
        int found = 0;
        while (Math.abs(calls.get(found).owed()) != most) {
            found++;
        }
        return found;
    }
}
