/** The cases of promise 3: split, and what "Places and consignments" says of it. */
public final class Promise03SplitTest extends Cases {
    public static void main(String[] args) {
        run(Promise03SplitTest.class, 3);
    }

    private static FreightSplits ofTenAndEight() {
        FreightSplits x = new FreightSplits();
        x.consign(3, 10, 8, 4, 50, 99);
        return x;
    }

    static void promise3SizeLeast() {
        edge(Halls::busy, (x, size) -> x.split(Halls.FREE, size, 5), 1, 8, 0);
    }

    static void promise3SizeIsLessThanItsSize() {
        edge(Halls::busy, (x, size) -> x.split(Halls.FREE, size, 5), 9, 8, 10);
        edge(Promise03SplitTest::ofTenAndEight, (x, size) -> x.split(0, size, 7), 9, 1, 10);
    }

    static void promise3WeightLeast() {
        edge(Halls::busy, (x, weight) -> x.split(Halls.FREE, 5, weight), 1, 8, 0);
    }

    static void promise3WeightIsLessThanItsWeight() {
        edge(Halls::busy, (x, weight) -> x.split(Halls.FREE, 5, weight), 9, 8, 10);
        edge(Promise03SplitTest::ofTenAndEight, (x, weight) -> x.split(0, 9, weight), 7, 1, 8);
    }

    static void promise3SizeOneCannotBeSplit() {
        FreightSplits x = new FreightSplits();
        x.consign(1, 1, 99, 0, 9, 5);
        for (int size = -1; size <= 2; size++) {
            due("split(0, " + size + ", 1)", x.split(0, size, 1), INVALID);
        }
    }

    static void promise3WeightOneCannotBeSplit() {
        FreightSplits x = new FreightSplits();
        x.consign(1, 99, 1, 0, 9, 5);
        for (int weight = -1; weight <= 2; weight++) {
            due("split(0, 1, " + weight + ")", x.split(0, 1, weight), INVALID);
        }
    }

    static void promise3SizeTwoAndWeightTwoAreSplitOnce() {
        FreightSplits x = new FreightSplits();
        x.consign(1, 2, 2, 0, 9, 5);
        due("split", x.split(0, 1, 1), 1);
        due("split the rest", x.split(0, 1, 1), INVALID);
        due("split the part", x.split(1, 1, 1), INVALID);
    }

    static void promise3TheRestsSizeBindsThen() {
        FreightSplits x = ofTenAndEight();
        due("split", x.split(0, 3, 3), 1);
        due("as much as is left", x.split(0, 7, 1), INVALID);
        due("one less", x.split(0, 6, 1), 2);
    }

    static void promise3TheRestsWeightBindsThen() {
        FreightSplits x = ofTenAndEight();
        due("split", x.split(0, 3, 3), 1);
        due("as much as is left", x.split(0, 1, 5), INVALID);
        due("one less", x.split(0, 1, 4), 2);
    }

    static void promise3ConsignmentLeast() {
        edge(Halls::busy, (x, number) -> x.split(number, 2, 2), 0, 8, -1);
    }

    static void promise3ConsignmentMost() {
        edge(Halls::busy, (x, number) -> x.split(number, 2, 2), Halls.OTHER, 8, Halls.NONE);
    }

    static void promise3ConsignmentOfTheNumberSixteen() {
        unchanging(Halls::full, x -> x.split(16, 2, 2), INVALID);
    }

    static void promise3AGoneOneIsNone() {
        unchanging(Halls::busy, x -> x.split(Halls.GONE, 1, 1), INVALID);
    }

    static void promise3ALoadedOneIsNotPossible() {
        unchanging(Halls::busy, x -> x.split(Halls.LOADED, 1, 1), NOT_POSSIBLE);
    }

    static void promise3OneUnderWayIsNotPossible() {
        unchanging(Halls::busy, x -> x.split(Halls.UNDER_WAY, 1, 1), NOT_POSSIBLE);
    }

    static void promise3OneDeliveredInTimeIsNotPossible() {
        unchanging(Halls::busy, x -> x.split(Halls.IN_TIME, 1, 1), NOT_POSSIBLE);
    }

    static void promise3ALostOneIsNotPossible() {
        unchanging(Halls::busy, x -> x.split(Halls.LOST, 1, 1), NOT_POSSIBLE);
    }

    static void promise3WrongArgumentsComeAheadOfNotPossible() {
        int[] numbers = {Halls.LOADED, Halls.UNDER_WAY, Halls.IN_TIME, Halls.LOST};
        for (int number : numbers) {
            unchanging(Halls::busy, x -> x.split(number, 0, 1), INVALID);
            unchanging(Halls::busy, x -> x.split(number, 5, 1), INVALID);
            unchanging(Halls::busy, x -> x.split(number, 1, 0), INVALID);
            unchanging(Halls::busy, x -> x.split(number, 1, 5), INVALID);
        }
    }

    static void promise3UnloadedItIsPossibleAgain() {
        FreightSplits x = Halls.busy();
        x.unload(Halls.LOADED);
        due("split", x.split(Halls.LOADED, 1, 1), 8);
    }

    static void promise3TheSixteenthIsTheLast() {
        change(() -> Halls.made(15), x -> x.split(14, 4, 4), 15);
        unchanging(() -> Halls.made(16), x -> x.split(15, 4, 4), LIMIT);
        unchanging(Halls::full, x -> x.split(0, 1, 1), LIMIT);
    }

    static void promise3GoneOnesCountForTheLimit() {
        FreightSplits x = Halls.made(15);
        due("split", x.split(3, 1, 1), 15);
        due("join", x.join(3, 15), 3);
        due("split", x.split(3, 1, 1), LIMIT);
    }

    static void promise3NotPossibleComesAheadOfTheLimit() {
        unchanging(Halls::fullyLoaded, x -> x.split(0, 1, 1), NOT_POSSIBLE);
    }

    static void promise3WrongArgumentsComeAheadOfTheLimit() {
        unchanging(Halls::full, x -> x.split(0, 0, 1), INVALID);
        unchanging(Halls::full, x -> x.split(0, 10, 1), INVALID);
        unchanging(Halls::full, x -> x.split(0, 1, 0), INVALID);
        unchanging(Halls::full, x -> x.split(0, 1, 5), INVALID);
    }

    static void promise3WrongArgumentsComeAheadOfAllElse() {
        unchanging(Halls::fullyLoaded, x -> x.split(0, 10, 1), INVALID);
        unchanging(Halls::fullyLoaded, x -> x.split(-1, 1, 1), INVALID);
    }

    private static void worths(int size, int worth, int part, int partsWorth) {
        FreightSplits x = new FreightSplits();
        x.consign(1, size, 2, 0, 9, worth);
        due("split", x.split(0, part, 1), 1);
        due("worth of " + part + " of " + size, x.consignmentOf(1, 5), partsWorth);
        due("worth of the rest", x.consignmentOf(0, 5), worth - partsWorth);
        due("size of the part", x.consignmentOf(1, 1), part);
        due("size of the rest", x.consignmentOf(0, 1), size - part);
    }

    static void promise3WorthIsRoundedDown() {
        worths(3, 100, 1, 33);
        worths(3, 100, 2, 66);
        worths(99, 999, 98, 988);
        worths(99, 998, 1, 10);
        worths(7, 6, 1, 0);
    }

    static void promise3WorthThatDividesEvenly() {
        worths(4, 100, 1, 25);
        worths(99, 99, 98, 98);
        worths(2, 998, 1, 499);
    }

    static void promise3WorthJustBelowAWholeCoin() {
        worths(99, 1, 98, 0);
        worths(2, 1, 1, 0);
        worths(50, 99, 1, 1);
    }

    static void promise3WorthOfNought() {
        worths(99, 0, 98, 0);
    }

    static void promise3ThePartIsAsTheWhole() {
        FreightSplits x = ofTenAndEight();
        x.pass(7);
        due("split", x.split(0, 4, 3), 1);
        isConsignment(x, 1, 3, 4, 3, 4, 50, 39, 0, NOT_FOUND, NOT_FOUND, 0b11, 7);
        isConsignment(x, 0, 3, 6, 5, 4, 50, 60, 0, NOT_FOUND, NOT_FOUND, 0b11, 7);
    }

    static void promise3ThePartWasInNoVehicle() {
        FreightSplits x = ofTenAndEight();
        x.vehicle(99, 99);
        x.load(0, 0);
        x.unload(0);
        x.split(0, 4, 3);
        due("the rest was in one", x.consignmentOf(0, 7), 0);
        due("the part was in none", x.consignmentOf(1, 7), NOT_FOUND);
    }

    static void promise3ThePartIsInTheHallSinceTheSameTime() {
        FreightSplits x = ofTenAndEight();
        x.pass(8);
        x.split(0, 1, 1);
        due("no fee up to now", x.count(8), 0);
        x.pass(1);
        due("a fee for each", x.count(8), 2);
        due("hours of the part", x.consignmentOf(1, 10), 9);
    }

    static void promise3PartsOfPartsAreOfTheSameWhole() {
        FreightSplits x = ofTenAndEight();
        x.consign(3, 10, 8, 4, 50, 99);
        x.split(0, 5, 5);
        x.split(2, 3, 3);
        x.split(3, 1, 1);
        for (int number : new int[] {0, 2, 3, 4}) {
            due("parts of the whole of " + number, x.consignmentOf(number, 9), 0b11101);
        }
        due("the other one's", x.consignmentOf(1, 9), 0b10);
    }

    static void promise3FifteenSplitsOfOne() {
        FreightSplits x = new FreightSplits();
        x.consign(1, 16, 16, 0, 9, 16);
        for (int i = 1; i <= 15; i++) {
            due("split", x.split(0, 1, 1), i);
            due("its worth", x.consignmentOf(i, 5), 1);
        }
        due("a 16th", x.split(0, 1, 1), INVALID);
        due("all parts", x.consignmentOf(15, 9), 0xffff);
    }

    static void promise3UndoGivesTheNumberBack() {
        FreightSplits x = ofTenAndEight();
        x.split(0, 4, 4);
        x.undo();
        due("no part", x.consignmentOf(1, 1), INVALID);
        due("its whole", x.consignmentOf(0, 9), 0b1);
        due("split", x.split(0, 2, 2), 1);
        due("size of the part", x.consignmentOf(1, 1), 2);
    }
}
