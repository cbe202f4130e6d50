/** Desks to begin a test with: an empty one, one in use, and one that is full. */
final class Scenes {
    static final int FULL_CALLS = 60;
    static final int FULL_RATES = 30;
    static final int FULL_OFFERS = 10;

    private Scenes() {
    }

    /** Three calls, of which the last has no rate and is not booked; two rates and two offers. */
    static Desk inUse() {
        Desk desk = new Desk();
        desk.record(0, 7, 4500, 1000, 30);
        desk.record(1, 7, 4600, 2000, 30);
        desk.record(2, 7, 7000, 3000, 30);
        desk.addRate(4, 0, 60, 1, 0, 0);
        desk.addRate(46, 2, 120, 1, 0, 0);
        desk.offer(0, 4, 10);
        desk.offer(3, 46, 5);
        desk.book();
        desk.claim(1, 90);
        return desk;
    }

    /**
     * 60 calls: the call i is to 40000 + i, on the day i, and 100 + i seconds long, its leg is from
     * the switch 0. 30 rates, the first for 4, the last for 40059 from the day 59 at twice the
     * price, those between for 99. Each carrier c offers 10 prices, for 4 the price 10 + c.
     */
    static Desk full() {
        Desk desk = new Desk();
        for (int i = 0; i < FULL_CALLS; i++) {
            desk.record(0, i, 40000 + i, i * 1000, 100 + i);
        }
        desk.addRate(4, 0, 60, 1, 0, 0);
        for (int i = 1; i < FULL_RATES - 1; i++) {
            desk.addRate(99, i, 0, 1, 0, 0);
        }
        desk.addRate(40059, 59, 120, 1, 0, 0);
        for (int i = 0; i < 4 * FULL_OFFERS; i++) {
            int carrier = i / FULL_OFFERS;
            int place = i % FULL_OFFERS;
            desk.offer(carrier, place == 0 ? 4 : 90 + place, 10 + carrier);
        }
        return desk;
    }
}
