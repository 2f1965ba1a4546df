/** The cases of promise 11: pass, and what "An hour" and "The way back" say of it. */
public final class Promise11PassTest extends Cases {
    public static void main(String[] args) {
        run(Promise11PassTest.class, 11);
    }

    static void promise11HoursLeast() {
        edge(Halls::empty, (x, hours) -> x.pass(hours), 1, 0, 0);
        edge(Halls::busy, (x, hours) -> x.pass(hours), 1, 0, 0);
    }

    static void promise11HoursMost() {
        edge(Halls::empty, (x, hours) -> x.pass(hours), 99, 0, 100);
        edge(Halls::busy, (x, hours) -> x.pass(hours), 99, 1, 100);
    }

    static void promise11HoursBelowNought() {
        unchanging(Halls::busy, x -> x.pass(-1), INVALID);
    }

    static void promise11UpToTheLastHour() {
        change(() -> Halls.at(8901), x -> x.pass(99), 0);
        change(() -> Halls.at(8999), x -> x.pass(1), 0);
    }

    static void promise11BeyondTheLastHour() {
        unchanging(() -> Halls.at(8902), x -> x.pass(99), LIMIT);
        unchanging(() -> Halls.at(8999), x -> x.pass(2), LIMIT);
        unchanging(Halls::atTheEnd, x -> x.pass(1), LIMIT);
        unchanging(Halls::atTheEnd, x -> x.pass(99), LIMIT);
    }

    static void promise11NoPartOfTheHoursGoesBy() {
        FreightSplits x = Halls.at(8995);
        x.vehicle(9, 9);
        x.consign(1, 5, 5, 0, 9999, 7);
        x.load(0, 0);
        x.depart(0);
        due("too many", x.pass(6), LIMIT);
        due("the time", x.count(2), 8995);
        due("still on the way", x.vehicleOf(0, 2), 1);
        due("all there are", x.pass(5), 1);
        due("the time", x.count(2), 9000);
    }

    static void promise11WrongHoursComeAheadOfTheLimit() {
        unchanging(Halls::atTheEnd, x -> x.pass(0), INVALID);
        unchanging(Halls::atTheEnd, x -> x.pass(-1), INVALID);
        unchanging(Halls::atTheEnd, x -> x.pass(100), INVALID);
        unchanging(Halls::atTheEnd, x -> x.pass(Integer.MAX_VALUE), INVALID);
    }

    static void promise11ManyHoursAreAsMuchAsOneByOne() {
        FreightSplits atOnce = Halls.busy();
        FreightSplits single = Halls.busy();
        int delivered = 0;
        for (int i = 0; i < 20; i++) {
            delivered += single.pass(1);
        }
        due("delivered", atOnce.pass(20), delivered);
        same("20 hours:", atOnce, single);
    }

    // ---- arriving and being back

    /** Vehicle 0 is on its way to place 1: it arrives at 3 and is back at 6. */
    private static FreightSplits onTheWay(int from, int to, int worth) {
        FreightSplits x = new FreightSplits();
        x.vehicle(20, 20);
        x.consign(1, 20, 20, from, to, worth);
        x.load(0, 0);
        x.depart(0);
        return x;
    }

    static void promise11AnHourAheadOfArriving() {
        FreightSplits x = onTheWay(0, 9, 7);
        due("delivered", x.pass(2), 0);
        due("on the way there", x.vehicleOf(0, 2), 1);
        due("earned", x.count(6), 0);
    }

    static void promise11TheHourOfArriving() {
        FreightSplits x = onTheWay(0, 9, 7);
        due("delivered", x.pass(3), 1);
        due("on the way back", x.vehicleOf(0, 2), 2);
        due("earned", x.count(6), 7);
        due("delivered once", x.pass(1), 0);
        due("earned once", x.count(6), 7);
    }

    static void promise11AnHourAheadOfBeingBack() {
        FreightSplits x = onTheWay(0, 9, 7);
        due("delivered", x.pass(5), 1);
        due("on the way back", x.vehicleOf(0, 2), 2);
        due("trips", x.vehicleOf(0, 9), 0);
    }

    static void promise11TheHourOfBeingBack() {
        FreightSplits x = onTheWay(0, 9, 7);
        due("delivered", x.pass(6), 1);
        due("in the hall", x.vehicleOf(0, 2), 0);
        due("trips", x.vehicleOf(0, 9), 1);
        due("and stays there", x.pass(99), 0);
        due("trips", x.vehicleOf(0, 9), 1);
    }

    static void promise11AWayOfOneHour() {
        FreightSplits x = new FreightSplits();
        x.set(0, 1);
        x.vehicle(20, 20);
        x.consign(1, 20, 20, 0, 1, 7);
        x.load(0, 0);
        x.depart(0);
        due("delivered", x.pass(1), 1);
        due("on the way back", x.vehicleOf(0, 2), 2);
        x.pass(1);
        due("in the hall", x.vehicleOf(0, 2), 0);
    }

    static void promise11NobodyArrives() {
        FreightSplits x = Halls.full();
        due("delivered", x.pass(99), 0);
    }

    static void promise11AllSixteenAreDelivered() {
        FreightSplits x = Halls.fullyLoaded();
        for (int i = 0; i < 4; i++) {
            x.depart(i);
        }
        due("of four vehicles at four hours", x.pass(12), 16);
    }

    static void promise11LostOnesAreCountedToo() {
        FreightSplits x = new FreightSplits();
        x.vehicle(20, 20);
        x.consign(1, 5, 5, 0, 2, 7);
        x.consign(1, 5, 5, 0, 3, 8);
        x.fill(0, 1, 0);
        x.depart(0);
        due("delivered", x.pass(3), 2);
        due("in time", x.count(4), 1);
        due("lost", x.count(5), 1);
    }

    static void promise11InTheLatestHourItIsInTime() {
        FreightSplits x = onTheWay(0, 3, 7);
        x.pass(3);
        due("in time", x.consignmentOf(0, 6), 3);
        due("earned", x.count(6), 7);
    }

    static void promise11AnHourAfterTheLatestItIsLost() {
        FreightSplits x = onTheWay(0, 2, 7);
        x.pass(3);
        due("lost", x.consignmentOf(0, 6), 4);
        due("earned", x.count(6), 0);
        due("hour of delivery", x.consignmentOf(0, 8), 3);
    }

    static void promise11InTheEarliestHourNothingIsPaid() {
        FreightSplits x = onTheWay(3, 3, 7);
        x.pass(3);
        due("paid for being early", x.count(9), 0);
        due("earned", x.count(6), 7);
    }

    static void promise11AnHourAheadOfTheEarliestIsPaid() {
        FreightSplits x = onTheWay(4, 9, 7);
        x.pass(3);
        due("paid for being early", x.count(9), 1);
        due("earned all the same", x.count(6), 7);
        due("in time", x.consignmentOf(0, 6), 3);
    }

    static void promise11AsEarlyAsCanBe() {
        FreightSplits x = onTheWay(9999, 9999, 7);
        x.set(2, 20);
        x.pass(3);
        due("paid for being early", x.count(9), 20 * 9996);
    }

    static void promise11BeingEarlyForNothing() {
        FreightSplits x = onTheWay(9999, 9999, 7);
        x.set(2, 0);
        x.pass(3);
        due("paid for being early", x.count(9), 0);
    }

    static void promise11ALostOneWasNotEarly() {
        FreightSplits x = onTheWay(0, 0, 7);
        x.pass(3);
        due("paid for being early", x.count(9), 0);
    }

    static void promise11WorthsAddUpOverTrips() {
        FreightSplits x = onTheWay(4, 9, 7);
        x.pass(6);
        x.consign(1, 5, 5, 11, 99, 30);
        x.load(1, 0);
        x.depart(0);
        x.pass(3);
        due("earned", x.count(6), 37);
        due("paid for being early", x.count(9), 3);
        due("in time", x.count(4), 2);
    }

    // ---- offers

    static void promise11AnOfferHoldsInItsLastHour() {
        FreightSplits x = onTheWay(0, 9, 7);
        x.offer(1, 5, 5, 30, 3);
        x.pass(3);
        due("taken", x.vehicleOf(0, 8), 30);
        due("gone", x.count(10), 0);
    }

    static void promise11AnOfferHeldUntilTheHourBefore() {
        FreightSplits x = onTheWay(0, 9, 7);
        x.offer(1, 5, 5, 30, 2);
        x.pass(2);
        due("holds as yet", x.count(10), 1);
        x.pass(1);
        due("not taken", x.vehicleOf(0, 8), 0);
        due("gone", x.count(10), 0);
    }

    static void promise11AnOfferMadeAfterTheArrival() {
        FreightSplits x = onTheWay(0, 9, 7);
        x.pass(3);
        x.offer(1, 5, 5, 30, 99);
        x.pass(3);
        due("earned by offers", x.count(7), 0);
        due("offers", x.count(10), 1);
    }

    static void promise11AnOfferMadeOnTheWay() {
        FreightSplits x = onTheWay(0, 9, 7);
        x.pass(2);
        x.offer(1, 5, 5, 30, 99);
        x.pass(1);
        due("taken", x.vehicleOf(0, 8), 30);
    }

    static void promise11AnOfferAtAnotherPlace() {
        FreightSplits x = onTheWay(0, 9, 7);
        x.offer(2, 5, 5, 30, 99);
        x.pass(3);
        due("not taken", x.vehicleOf(0, 8), 0);
        due("offers", x.count(10), 1);
    }

    private static void takes(int size, int weight, int price, int brings) {
        FreightSplits x = onTheWay(0, 9, 7);
        x.offer(1, size, weight, price, 9);
        x.pass(3);
        due("offer of " + size + ", " + weight, x.vehicleOf(0, 8), brings);
        due("offers left", x.count(10), brings == 0 && price > 0 ? 1 : 0);
    }

    static void promise11AnOfferThatJustHasRoom() {
        takes(20, 20, 30, 30);
        takes(20, 1, 30, 30);
        takes(1, 20, 30, 30);
    }

    static void promise11AnOfferGreaterThanTheRoom() {
        takes(21, 1, 30, 0);
    }

    static void promise11AnOfferHeavierThanTheBound() {
        takes(1, 21, 30, 0);
    }

    static void promise11AnOfferForNothingIsTakenToo() {
        takes(20, 20, 0, 0);
    }

    private static FreightSplits offered(int... sizesWeightsPrices) {
        FreightSplits x = onTheWay(0, 9, 7);
        for (int i = 0; i + 2 < sizesWeightsPrices.length; i += 3) {
            x.offer(1, sizesWeightsPrices[i], sizesWeightsPrices[i + 1], sizesWeightsPrices[i + 2], 9);
        }
        x.pass(3);
        return x;
    }

    static void promise11OffersHaveRoomTogether() {
        due("just", offered(12, 1, 30, 8, 1, 20).vehicleOf(0, 8), 50);
        due("not quite", offered(12, 1, 30, 9, 1, 20).vehicleOf(0, 8), 30);
    }

    static void promise11OffersAreWithinTheBoundTogether() {
        due("just", offered(1, 12, 30, 1, 8, 20).vehicleOf(0, 8), 50);
        due("not quite", offered(1, 12, 30, 1, 9, 20).vehicleOf(0, 8), 30);
    }

    static void promise11TheGreatestPriceIsTakenFirst() {
        FreightSplits x = offered(11, 11, 30, 11, 11, 31, 11, 11, 29);
        due("brings", x.vehicleOf(0, 8), 31);
        due("the first is left", x.offerOf(0, 3), 30);
        due("the third is left", x.offerOf(1, 3), 29);
    }

    static void promise11OfTheSamePriceTheOneMadeFirst() {
        FreightSplits x = offered(11, 11, 30, 12, 12, 30, 13, 13, 30);
        due("the second is left", x.offerOf(0, 1), 12);
        due("the third is left", x.offerOf(1, 1), 13);
        due("offers", x.count(10), 2);
    }

    static void promise11OneOfALowerPriceThatHasRoomIsTakenThen() {
        FreightSplits x = offered(11, 11, 30, 11, 11, 29, 9, 9, 1, 1, 1, 0);
        due("brings", x.vehicleOf(0, 8), 31);
        due("offers", x.count(10), 2);
        due("left", x.offerOf(0, 3), 29);
        due("left", x.offerOf(1, 3), 0);
    }

    static void promise11AllTenOffersAreTaken() {
        int[] rows = new int[30];
        for (int i = 0; i < 10; i++) {
            rows[3 * i] = 2;
            rows[3 * i + 1] = 2;
            rows[3 * i + 2] = 990 + i;
        }
        FreightSplits x = offered(rows);
        due("brings", x.vehicleOf(0, 8), 9945);
        due("offers", x.count(10), 0);
    }

    static void promise11NoOffers() {
        FreightSplits x = offered();
        due("brings", x.vehicleOf(0, 8), 0);
        x.pass(3);
        due("earned by offers", x.count(7), 0);
    }

    static void promise11PricesAreEarnedWhenItIsBack() {
        FreightSplits x = offered(5, 5, 30);
        x.pass(2);
        due("an hour ahead", x.count(7), 0);
        due("brings", x.vehicleOf(0, 8), 30);
        x.pass(1);
        due("back", x.count(7), 30);
        due("brings no more", x.vehicleOf(0, 8), 0);
        x.pass(9);
        due("earned once", x.count(7), 30);
    }

    static void promise11TheNextTripBringsItsOwnOffersAlone() {
        FreightSplits x = offered(5, 5, 30);
        x.pass(3);
        x.consign(1, 5, 5, 0, 99, 1);
        x.load(1, 0);
        x.offer(1, 20, 20, 4, 99);
        x.depart(0);
        x.pass(3);
        due("brings", x.vehicleOf(0, 8), 4);
        x.pass(3);
        due("earned by offers", x.count(7), 34);
    }

    static void promise11InTheSameHourTheLowerNumberTakesFirst() {
        FreightSplits x = new FreightSplits();
        Halls.addVehicles(x, 2, 20, 20);
        x.consign(1, 5, 5, 0, 9, 1);
        x.consign(1, 5, 5, 0, 9, 1);
        x.load(0, 1);
        x.load(1, 0);
        x.depart(1);
        x.depart(0);
        x.offer(1, 20, 20, 30, 9);
        x.offer(1, 20, 20, 40, 9);
        due("delivered", x.pass(3), 2);
        due("vehicle 0 brings", x.vehicleOf(0, 8), 40);
        due("vehicle 1 brings", x.vehicleOf(1, 8), 30);
    }

    static void promise11OneArrivesInTheHourInWhichAnotherIsBack() {
        FreightSplits x = new FreightSplits();
        Halls.addVehicles(x, 2, 20, 20);
        x.consign(1, 5, 5, 0, 99, 1);
        x.consign(2, 5, 5, 0, 99, 1);
        x.load(0, 1);
        x.load(1, 0);
        x.offer(1, 5, 5, 30, 9);
        x.offer(2, 5, 5, 40, 9);
        x.depart(0);
        x.depart(1);
        due("the first delivery", x.pass(3), 1);
        due("the second", x.pass(3), 1);
        due("one is back", x.count(7), 30);
        due("one is on its way back", x.vehicleOf(0, 8), 40);
    }

    // ---- fees

    private static FreightSplits inTheHall(int size, int hoursWithoutFee) {
        FreightSplits x = new FreightSplits();
        x.set(1, hoursWithoutFee);
        x.consign(1, size, 5, 0, 99, 1);
        return x;
    }

    static void promise11NoFeeForAsManyHoursAsAreFree() {
        FreightSplits x = inTheHall(10, 8);
        x.pass(8);
        due("fees", x.count(8), 0);
    }

    static void promise11AFeeFromTheNextHourOn() {
        FreightSplits x = inTheHall(10, 8);
        x.pass(9);
        due("fees", x.count(8), 1);
        x.pass(1);
        due("fees an hour later", x.count(8), 2);
    }

    static void promise11NoHoursWithoutAFee() {
        FreightSplits x = inTheHall(10, 0);
        due("fees at once", x.count(8), 0);
        x.pass(1);
        due("fees of the first hour", x.count(8), 1);
    }

    static void promise11TheMostHoursWithoutAFee() {
        FreightSplits x = inTheHall(10, 99);
        x.pass(99);
        due("fees of 99 hours", x.count(8), 0);
        x.pass(1);
        due("fees of 100 hours", x.count(8), 1);
    }

    static void promise11FeesAreRoundedUp() {
        int[] sizes = {1, 9, 10, 11, 19, 20, 21, 89, 90, 91, 99};
        int[] fees = {1, 1, 1, 2, 2, 2, 3, 9, 9, 10, 10};
        for (int i = 0; i < sizes.length; i++) {
            FreightSplits x = inTheHall(sizes[i], 0);
            x.pass(1);
            due("fee for size " + sizes[i], x.count(8), fees[i]);
            x.pass(2);
            due("of three hours", x.count(8), 3 * fees[i]);
        }
    }

    static void promise11EachConsignmentIsRoundedUpByItself() {
        FreightSplits x = inTheHall(11, 0);
        x.consign(1, 11, 5, 0, 99, 1);
        x.pass(1);
        due("fees", x.count(8), 4);
    }

    static void promise11LoadedOnesPayToo() {
        FreightSplits x = inTheHall(10, 0);
        x.vehicle(20, 20);
        x.load(0, 0);
        x.pass(1);
        due("fees", x.count(8), 1);
    }

    static void promise11OnesUnderWayPayNothing() {
        FreightSplits x = inTheHall(10, 0);
        x.vehicle(20, 20);
        x.load(0, 0);
        x.depart(0);
        x.pass(2);
        due("fees", x.count(8), 0);
    }

    static void promise11DeliveredOnesPayNothing() {
        FreightSplits x = inTheHall(10, 0);
        x.consign(1, 10, 5, 0, 0, 1);
        x.vehicle(20, 20);
        x.fill(0, 1, 0);
        x.depart(0);
        x.pass(9);
        due("in time", x.count(4), 1);
        due("lost", x.count(5), 1);
        due("fees", x.count(8), 0);
    }

    static void promise11GoneOnesPayNothing() {
        FreightSplits x = inTheHall(10, 0);
        x.split(0, 5, 2);
        x.join(0, 1);
        x.pass(1);
        due("fees", x.count(8), 1);
    }

    static void promise11AllSixteenPay() {
        FreightSplits x = Halls.full();
        x.pass(8);
        due("fees up to now", x.count(8), 0);
        x.pass(1);
        due("fees", x.count(8), 16);
    }

    static void promise11UnloadingDoesNotBeginTheHoursAnew() {
        FreightSplits x = inTheHall(10, 5);
        x.vehicle(20, 20);
        x.load(0, 0);
        x.pass(5);
        x.unload(0);
        x.pass(1);
        due("fees", x.count(8), 1);
    }
}
