/** The cases of promise 2: consign. */
public final class Promise02ConsignTest extends Cases {
    public static void main(String[] args) {
        run(Promise02ConsignTest.class, 2);
    }

    static void promise2PlaceLeast() {
        edge(Halls::empty, (x, place) -> x.consign(place, 5, 5, 1, 2, 3), 1, 0, 0);
        edge(Halls::busy, (x, place) -> x.consign(place, 5, 5, 1, 2, 3), 1, 8, 0);
    }

    static void promise2PlaceMost() {
        edge(Halls::empty, (x, place) -> x.consign(place, 5, 5, 1, 2, 3), 4, 0, 5);
    }

    static void promise2SizeLeast() {
        edge(Halls::empty, (x, size) -> x.consign(1, size, 5, 1, 2, 3), 1, 0, 0);
    }

    static void promise2SizeMost() {
        edge(Halls::empty, (x, size) -> x.consign(1, size, 5, 1, 2, 3), 99, 0, 100);
    }

    static void promise2WeightLeast() {
        edge(Halls::empty, (x, weight) -> x.consign(1, 5, weight, 1, 2, 3), 1, 0, 0);
    }

    static void promise2WeightMost() {
        edge(Halls::empty, (x, weight) -> x.consign(1, 5, weight, 1, 2, 3), 99, 0, 100);
    }

    static void promise2FromLeast() {
        edge(Halls::empty, (x, from) -> x.consign(1, 5, 5, from, 50, 3), 0, 0, -1);
    }

    static void promise2FromIsAtMostTo() {
        edge(Halls::empty, (x, from) -> x.consign(1, 5, 5, from, 50, 3), 50, 0, 51);
    }

    static void promise2FromMost() {
        edge(Halls::empty, (x, from) -> x.consign(1, 5, 5, from, 9999, 3), 9999, 0, 10000);
        unchanging(Halls::empty, x -> x.consign(1, 5, 5, 10000, 10000, 3), INVALID);
    }

    static void promise2ToIsFromAtLeast() {
        edge(Halls::empty, (x, to) -> x.consign(1, 5, 5, 50, to, 3), 50, 0, 49);
        edge(Halls::empty, (x, to) -> x.consign(1, 5, 5, 0, to, 3), 0, 0, -1);
    }

    static void promise2ToMost() {
        edge(Halls::empty, (x, to) -> x.consign(1, 5, 5, 50, to, 3), 9999, 0, 10000);
    }

    static void promise2WorthLeast() {
        edge(Halls::empty, (x, worth) -> x.consign(1, 5, 5, 1, 2, worth), 0, 0, -1);
    }

    static void promise2WorthMost() {
        edge(Halls::empty, (x, worth) -> x.consign(1, 5, 5, 1, 2, worth), 999, 0, 1000);
    }

    static void promise2LeastValuesStandAsGiven() {
        FreightSplits x = new FreightSplits();
        due("consign", x.consign(1, 1, 1, 0, 0, 0), 0);
        isConsignment(x, 0, 1, 1, 1, 0, 0, 0, 0, NOT_FOUND, NOT_FOUND, 0b1, 0);
    }

    static void promise2MostValuesStandAsGiven() {
        FreightSplits x = new FreightSplits();
        due("consign", x.consign(4, 99, 98, 9998, 9999, 999), 0);
        isConsignment(x, 0, 4, 99, 98, 9998, 9999, 999, 0, NOT_FOUND, NOT_FOUND, 0b1, 0);
    }

    static void promise2HoursGoneByAreAllowed() {
        FreightSplits x = Halls.at(150);
        due("consign", x.consign(2, 3, 4, 0, 149, 6), 0);
        isConsignment(x, 0, 2, 3, 4, 0, 149, 6, 0, NOT_FOUND, NOT_FOUND, 0b1, 0);
    }

    static void promise2AtTheLastHourItIsInTheHallSinceThen() {
        FreightSplits x = Halls.atTheEnd();
        due("consign", x.consign(1, 5, 5, 0, 9999, 3), 2);
        due("hours in the hall", x.consignmentOf(2, 10), 0);
        due("in the hall", x.count(3), 0b110);
    }

    static void promise2NumbersGoUpFromNought() {
        FreightSplits x = new FreightSplits();
        for (int i = 0; i < 16; i++) {
            due("consign", x.consign(1, 5, 5, 1, 2, i), i);
            due("made", x.count(0), i + 1);
            due("in the hall", x.count(3), (2 << i) - 1);
        }
    }

    static void promise2TheSixteenthIsTheLast() {
        change(() -> Halls.made(15), x -> x.consign(1, 5, 5, 1, 2, 3), 15);
        unchanging(() -> Halls.made(16), x -> x.consign(1, 5, 5, 1, 2, 3), LIMIT);
        unchanging(Halls::full, x -> x.consign(1, 5, 5, 1, 2, 3), LIMIT);
    }

    static void promise2SplitOnesCountForTheLimit() {
        FreightSplits x = Halls.made(14);
        due("split", x.split(0, 1, 1), 14);
        due("split", x.split(13, 1, 1), 15);
        due("consign", x.consign(1, 5, 5, 1, 2, 3), LIMIT);
    }

    static void promise2GoneOnesCountForTheLimit() {
        FreightSplits x = Halls.made(15);
        x.split(0, 1, 1);
        due("join", x.join(0, 15), 0);
        due("consign", x.consign(1, 5, 5, 1, 2, 3), LIMIT);
        due("made", x.count(0), 16);
    }

    static void promise2DeliveredOnesCountForTheLimit() {
        FreightSplits x = Halls.made(16);
        x.vehicle(200, 200);
        due("fill", x.fill(0, 1, 0), 16);
        x.depart(0);
        due("pass", x.pass(3), 16);
        due("in the hall", x.count(3), 0);
        due("consign", x.consign(1, 5, 5, 1, 2, 3), LIMIT);
    }

    static void promise2WrongArgumentsComeAheadOfTheLimit() {
        unchanging(Halls::full, x -> x.consign(0, 5, 5, 1, 2, 3), INVALID);
        unchanging(Halls::full, x -> x.consign(5, 5, 5, 1, 2, 3), INVALID);
        unchanging(Halls::full, x -> x.consign(1, 0, 5, 1, 2, 3), INVALID);
        unchanging(Halls::full, x -> x.consign(1, 100, 5, 1, 2, 3), INVALID);
        unchanging(Halls::full, x -> x.consign(1, 5, 0, 1, 2, 3), INVALID);
        unchanging(Halls::full, x -> x.consign(1, 5, 100, 1, 2, 3), INVALID);
        unchanging(Halls::full, x -> x.consign(1, 5, 5, -1, 2, 3), INVALID);
        unchanging(Halls::full, x -> x.consign(1, 5, 5, 3, 2, 3), INVALID);
        unchanging(Halls::full, x -> x.consign(1, 5, 5, 1, 10000, 3), INVALID);
        unchanging(Halls::full, x -> x.consign(1, 5, 5, 1, 2, -1), INVALID);
        unchanging(Halls::full, x -> x.consign(1, 5, 5, 1, 2, 1000), INVALID);
    }

    static void promise2AllArgumentsWrong() {
        unchanging(Halls::busy, x -> x.consign(0, 0, 0, -1, -2, -1), INVALID);
        unchanging(Halls::busy, x -> x.consign(5, 100, 100, 10000, 10001, 1000), INVALID);
    }

    static void promise2UndoGivesTheNumberBack() {
        FreightSplits x = Halls.made(16);
        due("undo", x.undo(), 3);
        due("made", x.count(0), 15);
        due("consign", x.consign(4, 5, 5, 1, 2, 3), 15);
        due("its place", x.consignmentOf(15, 0), 4);
    }
}
