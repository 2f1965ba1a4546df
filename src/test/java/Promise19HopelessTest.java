/** The cases of promise 19: hopeless. */
public final class Promise19HopelessTest extends Cases {
    public static void main(String[] args) {
        run(Promise19HopelessTest.class, 19);
    }

    private static FreightSplits one(int place, int to) {
        FreightSplits x = new FreightSplits();
        x.consign(place, 5, 5, 0, to, 1);
        return x;
    }

    static void promise19AnEmptyHall() {
        unchanging(Halls::empty, x -> x.hopeless(), 0);
    }

    static void promise19ThatWouldArriveInTheLatestHour() {
        for (int place = 1; place <= 4; place++) {
            due("hopeless", one(place, 3 * place).hopeless(), 0);
        }
    }

    static void promise19ThatWouldArriveAnHourAfterTheLatest() {
        for (int place = 1; place <= 4; place++) {
            due("hopeless", one(place, 3 * place - 1).hopeless(), 1);
        }
    }

    static void promise19WhenAnHourHasGoneBy() {
        FreightSplits x = one(1, 4);
        x.pass(1);
        due("just in time", x.hopeless(), 0);
        x.pass(1);
        due("too late", x.hopeless(), 1);
    }

    static void promise19TheWayOfNowCounts() {
        FreightSplits x = one(2, 14);
        x.set(0, 7);
        due("just in time", x.hopeless(), 0);
        x.set(0, 8);
        due("too late", x.hopeless(), 1);
        x.set(0, 1);
        due("in time again", x.hopeless(), 0);
    }

    static void promise19TheShortestWayAndTheLongest() {
        FreightSplits x = one(1, 1);
        x.consign(4, 5, 5, 0, 96, 1);
        x.consign(4, 5, 5, 0, 95, 1);
        x.set(0, 1);
        due("one hour for each place", x.hopeless(), 0);
        x.set(0, 24);
        due("24 hours for each place", x.hopeless(), 0b101);
    }

    static void promise19LoadedOnesToo() {
        FreightSplits x = one(1, 2);
        x.vehicle(9, 9);
        x.load(0, 0);
        due("loaded", x.hopeless(), 1);
    }

    static void promise19OnesUnderWayAreNotInTheHall() {
        FreightSplits x = one(1, 2);
        x.vehicle(9, 9);
        x.load(0, 0);
        x.depart(0);
        due("under way", x.hopeless(), 0);
    }

    static void promise19LostOnesAreNotInTheHall() {
        FreightSplits x = Halls.busy();
        x.pass(99);
        due("what is left in the hall", x.hopeless(), 0b11000011);
        due("lost", x.consignmentOf(Halls.LOST, 6), 4);
    }

    static void promise19GoneOnesAreNotInTheHall() {
        FreightSplits x = one(1, 2);
        x.split(0, 1, 1);
        due("both parts", x.hopeless(), 0b11);
        x.join(0, 1);
        due("the one that is left", x.hopeless(), 0b1);
    }

    static void promise19AllSixteen() {
        FreightSplits x = Halls.full();
        x.pass(33);
        due("all of them", x.hopeless(), 0xffff);
    }

    static void promise19TheLastOfSixteenAlone() {
        FreightSplits x = new FreightSplits();
        for (int i = 0; i < 15; i++) {
            x.consign(1, 5, 5, 0, 9, 1);
        }
        x.consign(4, 5, 5, 0, 9, 1);
        due("the last", x.hopeless(), 0x8000);
    }

    static void promise19AtTheLastHour() {
        FreightSplits x = Halls.atTheEnd();
        x.consign(1, 5, 5, 0, 9003, 1);
        x.consign(1, 5, 5, 0, 9002, 1);
        due("hopeless", x.hopeless(), 0b1010);
    }

    static void promise19ItChangesNothing() {
        unchanging(Halls::busy, x -> x.hopeless(), 0);
    }
}
