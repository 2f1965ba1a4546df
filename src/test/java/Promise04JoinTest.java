/** The cases of promise 4: join, and what "Places and consignments" says of it. */
public final class Promise04JoinTest extends Cases {
    public static void main(String[] args) {
        run(Promise04JoinTest.class, 4);
    }

    private static FreightSplits threeParts() {
        FreightSplits x = new FreightSplits();
        x.consign(3, 10, 20, 4, 50, 99);
        x.split(0, 4, 6);
        x.split(0, 3, 7);
        return x;
    }

    static void promise4OneLeast() {
        edge(Halls::busy, (x, one) -> x.join(one, Halls.PART), 0, 0, -1);
    }

    static void promise4OneMost() {
        edge(Promise04JoinTest::threeParts, (x, one) -> x.join(one, 0), 2, 0, 3);
        unchanging(Halls::busy, x -> x.join(Halls.NONE, Halls.FREE), INVALID);
        unchanging(Halls::full, x -> x.join(16, 0), INVALID);
    }

    static void promise4OtherLeast() {
        edge(Halls::busy, (x, other) -> x.join(Halls.PART, other), 0, 0, -1);
    }

    static void promise4OtherMost() {
        edge(Promise04JoinTest::threeParts, (x, other) -> x.join(0, other), 2, 0, 3);
        unchanging(Halls::busy, x -> x.join(Halls.FREE, Halls.NONE), INVALID);
        unchanging(Halls::full, x -> x.join(0, 16), INVALID);
    }

    static void promise4TheLastNumberOfAll() {
        FreightSplits x = new FreightSplits();
        for (int i = 0; i < 15; i++) {
            x.consign(1, 5, 5, 0, 9, 3);
        }
        x.split(14, 2, 2);
        due("join", x.join(15, 14), 14);
        due("it is gone", x.consignmentOf(15, 0), INVALID);
    }

    static void promise4AGoneOneIsNone() {
        unchanging(Halls::busy, x -> x.join(Halls.GONE, Halls.FREE), INVALID);
        unchanging(Halls::busy, x -> x.join(Halls.FREE, Halls.GONE), INVALID);
    }

    static void promise4BothAreGone() {
        unchanging(Halls::busy, x -> x.join(Halls.GONE, Halls.GONE), INVALID);
    }

    static void promise4BothAreTheSame() {
        unchanging(Halls::busy, x -> x.join(Halls.FREE, Halls.FREE), INVALID);
        unchanging(Halls::busy, x -> x.join(Halls.NONE, Halls.NONE), INVALID);
    }

    static void promise4BothAreTheSameAndNotInTheHall() {
        unchanging(Halls::busy, x -> x.join(Halls.LOADED, Halls.LOADED), INVALID);
        unchanging(Halls::busy, x -> x.join(Halls.UNDER_WAY, Halls.UNDER_WAY), INVALID);
        unchanging(Halls::busy, x -> x.join(Halls.LOST, Halls.LOST), INVALID);
    }

    static void promise4PartsOfTwoWholes() {
        unchanging(Halls::busy, x -> x.join(Halls.FREE, Halls.OTHER), NOT_POSSIBLE);
        unchanging(Halls::busy, x -> x.join(Halls.OTHER, Halls.FREE), NOT_POSSIBLE);
    }

    static void promise4TwoAlikeThatAreNoParts() {
        FreightSplits x = new FreightSplits();
        x.consign(1, 5, 5, 0, 9, 3);
        x.consign(1, 5, 5, 0, 9, 3);
        due("join", x.join(0, 1), NOT_POSSIBLE);
        due("join", x.join(1, 0), NOT_POSSIBLE);
    }

    private static void notPossibleWithFree(int number) {
        unchanging(Halls::busy, x -> x.join(Halls.FREE, number), NOT_POSSIBLE);
        unchanging(Halls::busy, x -> x.join(number, Halls.FREE), NOT_POSSIBLE);
        unchanging(Halls::busy, x -> x.join(Halls.PART, number), NOT_POSSIBLE);
        unchanging(Halls::busy, x -> x.join(number, Halls.PART), NOT_POSSIBLE);
    }

    static void promise4OneIsLoaded() {
        notPossibleWithFree(Halls.LOADED);
    }

    static void promise4OneIsUnderWay() {
        notPossibleWithFree(Halls.UNDER_WAY);
    }

    static void promise4OneWasDelivered() {
        notPossibleWithFree(Halls.IN_TIME);
    }

    static void promise4OneWasLost() {
        FreightSplits x = threeParts();
        x.vehicle(99, 99);
        x.load(1, 0);
        x.pass(50);
        x.depart(0);
        x.pass(9);
        due("lost", x.consignmentOf(1, 6), 4);
        due("join", x.join(0, 1), NOT_POSSIBLE);
        due("join", x.join(1, 2), NOT_POSSIBLE);
        due("those in the hall", x.join(2, 0), 0);
    }

    static void promise4BothAreLoadedTogether() {
        FreightSplits x = threeParts();
        x.vehicle(99, 99);
        x.load(0, 0);
        x.load(1, 0);
        due("join", x.join(0, 1), NOT_POSSIBLE);
        x.unload(0);
        due("one is", x.join(0, 1), NOT_POSSIBLE);
        x.unload(1);
        due("none is", x.join(0, 1), 0);
    }

    static void promise4NoSuchOneComesAheadOfNotPossible() {
        int[] numbers = {Halls.LOADED, Halls.UNDER_WAY, Halls.IN_TIME, Halls.LOST};
        for (int number : numbers) {
            unchanging(Halls::busy, x -> x.join(number, -1), INVALID);
            unchanging(Halls::busy, x -> x.join(Halls.NONE, number), INVALID);
            unchanging(Halls::busy, x -> x.join(number, Halls.GONE), INVALID);
        }
    }

    static void promise4TheLowerNumberIsLeft() {
        change(Promise04JoinTest::threeParts, x -> x.join(2, 1), 1);
        change(Promise04JoinTest::threeParts, x -> x.join(1, 2), 1);
    }

    static void promise4SizesWeightsAndWorthsComeTogether() {
        FreightSplits x = threeParts();
        due("join", x.join(2, 1), 1);
        isConsignment(x, 1, 3, 7, 13, 4, 50, 69, 0, NOT_FOUND, NOT_FOUND, 0b11, 0);
        isConsignment(x, 0, 3, 3, 7, 4, 50, 30, 0, NOT_FOUND, NOT_FOUND, 0b11, 0);
    }

    static void promise4OfSizeAndWorthAtTheMost() {
        FreightSplits x = new FreightSplits();
        x.consign(1, 99, 99, 0, 9, 999);
        x.split(0, 98, 1);
        due("join", x.join(0, 1), 0);
        due("its size", x.consignmentOf(0, 1), 99);
        due("its weight", x.consignmentOf(0, 2), 99);
        due("its worth", x.consignmentOf(0, 5), 999);
    }

    static void promise4TheOtherOneIsGone() {
        FreightSplits x = threeParts();
        x.vehicle(99, 99);
        x.join(1, 2);
        for (int what = 0; what <= 10; what++) {
            due("consignmentOf(2, " + what + ")", x.consignmentOf(2, what), INVALID);
        }
        due("in the hall", x.count(3), 0b11);
        due("parts", x.consignmentOf(0, 9), 0b11);
        due("would be filled", x.wouldFill(0, 3, 0), 0b11);
        due("made", x.count(0), 3);
        x.pass(9);
        due("fees for two", x.count(8), 2);
    }

    static void promise4TheOthersNumberIsNotUsedAgain() {
        FreightSplits x = threeParts();
        x.join(1, 2);
        due("consign", x.consign(1, 5, 5, 0, 9, 3), 3);
        due("split", x.split(0, 1, 1), 4);
        due("still gone", x.consignmentOf(2, 0), INVALID);
    }

    static void promise4WithAllNumbersUsed() {
        FreightSplits x = new FreightSplits();
        x.consign(1, 99, 99, 0, 9, 999);
        for (int i = 1; i < 16; i++) {
            x.split(0, 3, 3);
        }
        due("join", x.join(15, 0), 0);
        due("the number is not free", x.split(0, 3, 3), LIMIT);
    }

    static void promise4SinceTheEarlierOneIsInTheHall() {
        FreightSplits x = new FreightSplits();
        x.pass(2);
        x.consign(1, 9, 9, 0, 99, 3);
        x.pass(4);
        x.split(0, 3, 3);
        x.pass(1);
        due("join", x.join(0, 1), 0);
        due("hours in the hall", x.consignmentOf(0, 10), 5);
        x.pass(3);
        due("no fee up to now", x.count(8), 0);
        x.pass(1);
        due("a fee", x.count(8), 1);
    }

    static void promise4AJoinedOneCanBeSplitAndJoinedAgain() {
        FreightSplits x = threeParts();
        x.join(0, 2);
        due("split", x.split(0, 5, 5), 3);
        due("join", x.join(3, 1), 1);
        due("join", x.join(1, 0), 0);
        due("whole again", x.consignmentOf(0, 1), 10);
        due("whole again", x.consignmentOf(0, 2), 20);
        due("whole again", x.consignmentOf(0, 5), 99);
        due("alone", x.consignmentOf(0, 9), 0b1);
    }

    static void promise4UndoBringsTheOtherBack() {
        FreightSplits x = threeParts();
        x.join(0, 2);
        x.undo();
        due("its size", x.consignmentOf(2, 1), 3);
        due("the one's size", x.consignmentOf(0, 1), 3);
        due("parts", x.consignmentOf(0, 9), 0b111);
    }
}
