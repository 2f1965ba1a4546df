/** The cases of promise 18: wouldEarn. */
public final class Promise18WouldEarnTest extends Cases {
    private static final int BASE = 4000000;

    public static void main(String[] args) {
        run(Promise18WouldEarnTest.class, 18);
    }

    static void promise18VehicleLeast() {
        edgeOfQuestion(Halls::busy, (x, vehicle) -> x.wouldEarn(vehicle), 0, BASE + 46, -1);
    }

    static void promise18VehicleMost() {
        edgeOfQuestion(Halls::fullyLoaded, (x, vehicle) -> x.wouldEarn(vehicle), 3, BASE + 54 + 210, 4);
        unchanging(Halls::atTheEnd, x -> x.wouldEarn(2), INVALID);
    }

    static void promise18OnTheWayThere() {
        unchanging(Halls::busy, x -> x.wouldEarn(Halls.THERE), NOT_POSSIBLE);
    }

    static void promise18OnTheWayBack() {
        unchanging(Halls::busy, x -> x.wouldEarn(Halls.BACK), NOT_POSSIBLE);
    }

    static void promise18WithoutALoad() {
        unchanging(Halls::busy, x -> x.wouldEarn(Halls.WITHOUT), NOT_POSSIBLE);
    }

    static void promise18BackWithoutALoad() {
        FreightSplits x = Halls.busy();
        x.pass(3);
        due("where it is", x.vehicleOf(Halls.BACK, 2), 0);
        due("wouldEarn", x.wouldEarn(Halls.BACK), NOT_POSSIBLE);
    }

    static void promise18AllUnloadedAgain() {
        FreightSplits x = Halls.busy();
        x.unload(Halls.LOADED);
        due("wouldEarn", x.wouldEarn(Halls.WITH_LOAD), NOT_POSSIBLE);
    }

    /** Vehicle 0 with one consignment for place 1, where it would arrive at the hour 3. */
    private static FreightSplits loaded(int from, int to, int worth) {
        FreightSplits x = new FreightSplits();
        x.vehicle(20, 20);
        x.consign(1, 20, 20, from, to, worth);
        x.load(0, 0);
        return x;
    }

    static void promise18NothingAtAll() {
        unchanging(() -> loaded(0, 9, 0), x -> x.wouldEarn(0), BASE);
    }

    static void promise18InTheLatestHour() {
        unchanging(() -> loaded(0, 3, 70), x -> x.wouldEarn(0), BASE + 70);
    }

    static void promise18AnHourAfterTheLatest() {
        unchanging(() -> loaded(0, 2, 70), x -> x.wouldEarn(0), BASE);
    }

    static void promise18InTheEarliestHour() {
        unchanging(() -> loaded(3, 9, 70), x -> x.wouldEarn(0), BASE + 70);
    }

    static void promise18AnHourAheadOfTheEarliest() {
        unchanging(() -> loaded(4, 9, 70), x -> x.wouldEarn(0), BASE + 69);
    }

    static void promise18LessThanNothing() {
        unchanging(() -> loaded(100, 100, 0), x -> x.wouldEarn(0), BASE - 97);
    }

    static void promise18TheLeastThereIs() {
        FreightSplits x = new FreightSplits();
        x.vehicle(16, 16);
        for (int i = 0; i < 16; i++) {
            x.consign(1, 1, 1, 9999, 9999, 0);
        }
        x.set(0, 1);
        x.set(2, 20);
        x.fill(0, 1, 0);
        due("wouldEarn", x.wouldEarn(0), BASE - 16 * 20 * 9998);
    }

    static void promise18TheMostThereIs() {
        FreightSplits x = new FreightSplits();
        x.vehicle(16, 16);
        for (int i = 0; i < 16; i++) {
            x.consign(1, 1, 1, 0, 9999, 999);
        }
        for (int i = 0; i < 10; i++) {
            x.offer(1, 1, 1, 999, 99);
        }
        x.fill(0, 1, 0);
        due("wouldEarn", x.wouldEarn(0), BASE + 26 * 999);
    }

    static void promise18TheSettingsOfNow() {
        FreightSplits x = loaded(10, 20, 0);
        x.set(2, 0);
        due("no coins for being early", x.wouldEarn(0), BASE);
        x.set(2, 20);
        due("20 for each of 7 hours", x.wouldEarn(0), BASE - 140);
        x.set(0, 10);
        due("a way of 10 hours", x.wouldEarn(0), BASE);
        x.set(0, 21);
        due("too long a way", x.wouldEarn(0), BASE);
    }

    static void promise18OnlyWhatComesInTime() {
        FreightSplits x = new FreightSplits();
        x.vehicle(20, 20);
        x.consign(2, 5, 5, 0, 5, 100);
        x.consign(2, 5, 5, 0, 6, 30);
        x.consign(2, 5, 5, 8, 9, 4);
        x.fill(0, 2, 0);
        due("30 and 4, less 2", x.wouldEarn(0), BASE + 32);
        x.pass(1);
        due("an hour later", x.wouldEarn(0), BASE + 3);
    }

    static void promise18AnOfferThatHoldsInTheHourOfArriving() {
        FreightSplits x = loaded(0, 9, 7);
        x.offer(1, 20, 20, 30, 3);
        due("wouldEarn", x.wouldEarn(0), BASE + 37);
    }

    static void promise18AnOfferThatHoldsUntilTheHourBefore() {
        FreightSplits x = loaded(0, 9, 7);
        x.offer(1, 20, 20, 30, 2);
        due("wouldEarn", x.wouldEarn(0), BASE + 7);
    }

    static void promise18AnOfferAtAnotherPlace() {
        FreightSplits x = loaded(0, 9, 7);
        x.offer(2, 20, 20, 30, 99);
        due("wouldEarn", x.wouldEarn(0), BASE + 7);
    }

    static void promise18AnOfferGreaterThanTheRoom() {
        FreightSplits x = loaded(0, 9, 7);
        x.offer(1, 21, 1, 30, 9);
        due("wouldEarn", x.wouldEarn(0), BASE + 7);
    }

    static void promise18AnOfferHeavierThanTheBound() {
        FreightSplits x = loaded(0, 9, 7);
        x.offer(1, 1, 21, 30, 9);
        due("wouldEarn", x.wouldEarn(0), BASE + 7);
    }

    static void promise18OffersByTheGreatestPrice() {
        FreightSplits x = loaded(0, 9, 7);
        x.offer(1, 11, 11, 30, 9);
        x.offer(1, 11, 11, 40, 9);
        x.offer(1, 10, 10, 29, 9);
        x.offer(1, 9, 9, 2, 9);
        due("40 and 2", x.wouldEarn(0), BASE + 49);
    }

    static void promise18AsIfNoOtherVehicleCameThere() {
        FreightSplits x = loaded(0, 9, 7);
        x.vehicle(20, 20);
        x.consign(1, 5, 5, 0, 9, 1);
        x.load(1, 1);
        x.depart(1);
        x.offer(1, 5, 5, 30, 9);
        due("the other one comes first", x.wouldEarn(0), BASE + 37);
        x.pass(3);
        due("the other one took it", x.wouldEarn(0), BASE + 7);
        due("it is earned by that one", x.vehicleOf(1, 8), 30);
    }

    static void promise18OffersTakenUpToNowDoNotCount() {
        FreightSplits x = Halls.busy();
        x.pass(3);
        x.load(Halls.OTHER, Halls.BACK);
        due("40 for what it brings now", x.wouldEarn(Halls.BACK), BASE + 40);
    }

    static void promise18WhatWasEarnedAndPaidUpToNowDoesNotCount() {
        FreightSplits x = loaded(9, 9, 50);
        x.depart(0);
        x.pass(6);
        due("paid for being early", x.count(9), 6);
        due("earned", x.count(6), 50);
        x.consign(1, 5, 5, 13, 20, 7);
        x.load(1, 0);
        due("7, less 4", x.wouldEarn(0), BASE + 3);
    }

    static void promise18FeesForStayingDoNotCount() {
        FreightSplits x = loaded(0, 99, 7);
        x.pass(50);
        holds("fees were paid", x.count(8) > 0);
        due("wouldEarn", x.wouldEarn(0), BASE + 7);
    }

    static void promise18AtTheLastHour() {
        FreightSplits x = Halls.atTheEnd();
        x.consign(3, 5, 5, 9010, 9999, 50);
        x.load(2, 0);
        due("an hour early beyond the last hour", x.wouldEarn(0), BASE + 49);
    }

    static void promise18ItIsWhatTheTripBringsThen() {
        FreightSplits x = Halls.busy();
        int would = x.wouldEarn(Halls.WITH_LOAD) - BASE;
        due("nothing was earned by asking", x.count(6), 17);
        x.depart(Halls.WITH_LOAD);
        x.pass(3);
        due("its freight's worth", x.consignmentOf(Halls.LOADED, 5), 16);
        due("the other vehicle took the offer", x.vehicleOf(Halls.WITH_LOAD, 8), 0);
        due("with that offer", would, 46);
    }
}
