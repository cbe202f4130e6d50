import java.util.ArrayList;
import java.util.List;

/**
 * A CarrierDesk that keeps its calls, so that it can be made once more and asked there what would
 * change it. It refuses a 513th call: what that answers is free, so no test may rest on it.
 */
final class Desk {
    static final int MAX_CALLS = 512;

    interface Step {
        int on(CarrierDesk desk);
    }

    private final CarrierDesk desk = new CarrierDesk();
    private final List<Step> steps = new ArrayList<>();

    /** Another desk with the same calls behind it, refused ones too. */
    Desk again() {
        Desk other = new Desk();
        for (Step step : steps) {
            Outcome.of(() -> other.answer(step));
        }
        return other;
    }

    int callsMade() {
        return steps.size();
    }

    private int answer(Step step) {
        if (steps.size() >= MAX_CALLS) {
            throw new AssertionError("a test makes more than 512 calls of one object");
        }
        steps.add(step);
        return step.on(desk);
    }

    int setBound(int seconds) {
        return answer(d -> d.setBound(seconds));
    }

    int record(int source, int sequence, int number, int begin, int seconds) {
        return answer(d -> d.record(source, sequence, number, begin, seconds));
    }

    int gaps(int source) {
        return answer(d -> d.gaps(source));
    }

    int doubles(int source) {
        return answer(d -> d.doubles(source));
    }

    int calls() {
        return answer(d -> d.calls());
    }

    int legs(int call) {
        return answer(d -> d.legs(call));
    }

    int length(int call) {
        return answer(d -> d.length(call));
    }

    int addRate(int prefix, int day, int price, int step, int least, int fee) {
        return answer(d -> d.addRate(prefix, day, price, step, least, fee));
    }

    int rateFor(int number, int day) {
        return answer(d -> d.rateFor(number, day));
    }

    int charge(int call) {
        return answer(d -> d.charge(call));
    }

    int book() {
        return answer(d -> d.book());
    }

    int booked(int call) {
        return answer(d -> d.booked(call));
    }

    int correct() {
        return answer(d -> d.correct());
    }

    int corrections() {
        return answer(d -> d.corrections());
    }

    int total(int prefix) {
        return answer(d -> d.total(prefix));
    }

    int offer(int carrier, int prefix, int price) {
        return answer(d -> d.offer(carrier, prefix, price));
    }

    int offerFor(int carrier, int number) {
        return answer(d -> d.offerFor(carrier, number));
    }

    int route(int number, int day, int margin, int rank) {
        return answer(d -> d.route(number, day, margin, rank));
    }

    int claim(int call, int amount) {
        return answer(d -> d.claim(call, amount));
    }

    int difference(int prefix) {
        return answer(d -> d.difference(prefix));
    }

    int narrow(int digits) {
        return answer(d -> d.narrow(digits));
    }

    int worst() {
        return answer(d -> d.worst());
    }
}
