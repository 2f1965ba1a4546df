/** The cases of promise 10: offer. */
public final class Promise10OfferTest extends Cases {
    public static void main(String[] args) {
        run(Promise10OfferTest.class, 10);
    }

    private static FreightSplits with(int offers) {
        FreightSplits x = new FreightSplits();
        for (int i = 0; i < offers; i++) {
            x.offer(2, 5, 6, i, 9);
        }
        return x;
    }

    static void promise10PlaceLeast() {
        edge(Halls::empty, (x, place) -> x.offer(place, 5, 6, 7, 8), 1, 1, 0);
    }

    static void promise10PlaceMost() {
        edge(Halls::empty, (x, place) -> x.offer(place, 5, 6, 7, 8), 4, 1, 5);
    }

    static void promise10SizeLeast() {
        edge(Halls::empty, (x, size) -> x.offer(1, size, 6, 7, 8), 1, 1, 0);
    }

    static void promise10SizeMost() {
        edge(Halls::empty, (x, size) -> x.offer(1, size, 6, 7, 8), 99, 1, 100);
    }

    static void promise10WeightLeast() {
        edge(Halls::empty, (x, weight) -> x.offer(1, 5, weight, 7, 8), 1, 1, 0);
    }

    static void promise10WeightMost() {
        edge(Halls::empty, (x, weight) -> x.offer(1, 5, weight, 7, 8), 99, 1, 100);
    }

    static void promise10PriceLeast() {
        edge(Halls::empty, (x, price) -> x.offer(1, 5, 6, price, 8), 0, 1, -1);
    }

    static void promise10PriceMost() {
        edge(Halls::empty, (x, price) -> x.offer(1, 5, 6, price, 8), 999, 1, 1000);
    }

    static void promise10HoursLeast() {
        edge(Halls::busy, (x, hours) -> x.offer(1, 5, 6, 7, hours), 0, 3, -1);
    }

    static void promise10HoursMost() {
        edge(Halls::busy, (x, hours) -> x.offer(1, 5, 6, 7, hours), 99, 3, 100);
    }

    static void promise10AllArgumentsWrong() {
        unchanging(Halls::busy, x -> x.offer(0, 0, 0, -1, -1), INVALID);
        unchanging(Halls::busy, x -> x.offer(5, 100, 100, 1000, 100), INVALID);
    }

    static void promise10TheTenthIsTheLast() {
        change(() -> with(9), x -> x.offer(1, 5, 6, 7, 8), 10);
        unchanging(() -> with(10), x -> x.offer(1, 5, 6, 7, 8), LIMIT);
        unchanging(Halls::full, x -> x.offer(1, 5, 6, 7, 8), LIMIT);
    }

    static void promise10ItTellsHowManyThereAre() {
        FreightSplits x = new FreightSplits();
        for (int i = 1; i <= 10; i++) {
            due("offer", x.offer(1, 5, 6, 7, 8), i);
            due("count(10)", x.count(10), i);
        }
    }

    static void promise10WrongArgumentsComeAheadOfTheLimit() {
        unchanging(Halls::full, x -> x.offer(0, 5, 6, 7, 8), INVALID);
        unchanging(Halls::full, x -> x.offer(5, 5, 6, 7, 8), INVALID);
        unchanging(Halls::full, x -> x.offer(1, 0, 6, 7, 8), INVALID);
        unchanging(Halls::full, x -> x.offer(1, 100, 6, 7, 8), INVALID);
        unchanging(Halls::full, x -> x.offer(1, 5, 0, 7, 8), INVALID);
        unchanging(Halls::full, x -> x.offer(1, 5, 100, 7, 8), INVALID);
        unchanging(Halls::full, x -> x.offer(1, 5, 6, -1, 8), INVALID);
        unchanging(Halls::full, x -> x.offer(1, 5, 6, 1000, 8), INVALID);
        unchanging(Halls::full, x -> x.offer(1, 5, 6, 7, -1), INVALID);
        unchanging(Halls::full, x -> x.offer(1, 5, 6, 7, 100), INVALID);
    }

    static void promise10LeastAndMostValuesStandAsGiven() {
        FreightSplits x = new FreightSplits();
        x.offer(1, 1, 1, 0, 0);
        x.offer(4, 99, 98, 999, 99);
        isOffer(x, 0, 1, 1, 1, 0, 0);
        isOffer(x, 1, 4, 99, 98, 999, 99);
    }

    static void promise10ForNoHoursItHoldsInThisHourAlone() {
        FreightSplits x = Halls.busy();
        x.offer(3, 5, 6, 7, 0);
        isOffer(x, 2, 3, 5, 6, 7, 3);
        x.pass(1);
        due("offers an hour later", x.count(10), 2);
    }

    static void promise10TheLastHourInWhichItHolds() {
        FreightSplits x = new FreightSplits();
        x.pass(1);
        x.offer(3, 5, 6, 7, 4);
        x.pass(4);
        due("in it", x.count(10), 1);
        x.pass(1);
        due("after it", x.count(10), 0);
    }

    static void promise10ForTheMostHours() {
        FreightSplits x = new FreightSplits();
        x.offer(3, 5, 6, 7, 99);
        x.pass(99);
        due("in the last one", x.count(10), 1);
        x.pass(1);
        due("after it", x.count(10), 0);
    }

    static void promise10HoldingBeyondTheLastHourOfAll() {
        FreightSplits x = Halls.atTheEnd();
        due("offer", x.offer(3, 5, 6, 7, 99), 2);
        isOffer(x, 1, 3, 5, 6, 7, 9099);
    }

    static void promise10GoneOnesMakeRoom() {
        FreightSplits x = with(10);
        x.pass(9);
        due("an 11th while they hold", x.offer(1, 5, 6, 7, 8), LIMIT);
        x.pass(1);
        due("the first one then", x.offer(1, 5, 6, 7, 8), 1);
        isOffer(x, 0, 1, 5, 6, 7, 18);
    }

    static void promise10ATakenOneMakesRoom() {
        FreightSplits x = with(9);
        x.offer(1, 5, 6, 7, 9);
        x.vehicle(5, 6);
        x.consign(1, 1, 1, 0, 9, 1);
        x.load(0, 0);
        x.depart(0);
        x.pass(3);
        due("taken", x.vehicleOf(0, 8), 7);
        due("the tenth again", x.offer(4, 3, 2, 1, 0), 10);
        isOffer(x, 9, 4, 3, 2, 1, 3);
        due("an 11th", x.offer(1, 5, 6, 7, 8), LIMIT);
    }

    static void promise10AnUndoneOneMakesRoom() {
        FreightSplits x = with(10);
        x.undo();
        due("the tenth again", x.offer(4, 3, 2, 1, 0), 10);
        isOffer(x, 9, 4, 3, 2, 1, 0);
    }
}
