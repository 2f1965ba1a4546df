/** The cases of promise 6: load, and what "Vehicles and trips" says of it. */
public final class Promise06LoadTest extends Cases {
    public static void main(String[] args) {
        run(Promise06LoadTest.class, 6);
    }

    static void promise6ConsignmentLeast() {
        edge(Halls::busy, (x, number) -> x.load(number, Halls.WITHOUT), 0, 10, -1);
    }

    static void promise6ConsignmentMost() {
        edge(Halls::busy, (x, number) -> x.load(number, Halls.WITHOUT), Halls.OTHER, 11, Halls.NONE);
    }

    static void promise6ConsignmentOfTheNumberSixteen() {
        edge(Halls::full, (x, number) -> x.load(number, 0), 15, 30, 16);
    }

    static void promise6AGoneOneIsNone() {
        unchanging(Halls::busy, x -> x.load(Halls.GONE, Halls.WITHOUT), INVALID);
    }

    static void promise6VehicleLeast() {
        edge(Halls::busy, (x, vehicle) -> x.load(Halls.FREE, vehicle), 0, 5, -1);
    }

    static void promise6VehicleMost() {
        edge(Halls::full, (x, vehicle) -> x.load(0, vehicle), 3, 30, 4);
        edge(Halls::atTheEnd, (x, vehicle) -> x.load(1, vehicle), 0, 15, 2);
    }

    static void promise6BothAreNone() {
        unchanging(Halls::busy, x -> x.load(-1, -1), INVALID);
        unchanging(Halls::busy, x -> x.load(Halls.NONE, Halls.NO_VEHICLE), INVALID);
    }

    static void promise6NoSuchOneComesAheadOfNotPossible() {
        unchanging(Halls::busy, x -> x.load(Halls.LOADED, Halls.NO_VEHICLE), INVALID);
        unchanging(Halls::busy, x -> x.load(Halls.UNDER_WAY, -1), INVALID);
        unchanging(Halls::busy, x -> x.load(Halls.LOST, Halls.NO_VEHICLE), INVALID);
        unchanging(Halls::busy, x -> x.load(-1, Halls.THERE), INVALID);
        unchanging(Halls::busy, x -> x.load(Halls.NONE, Halls.BACK), INVALID);
        unchanging(Halls::busy, x -> x.load(Halls.GONE, Halls.THERE), INVALID);
    }

    static void promise6LoadedInTheSameVehicle() {
        unchanging(Halls::busy, x -> x.load(Halls.LOADED, Halls.WITH_LOAD), NOT_POSSIBLE);
    }

    static void promise6LoadedInAnotherVehicle() {
        unchanging(Halls::busy, x -> x.load(Halls.LOADED, Halls.WITHOUT), NOT_POSSIBLE);
    }

    static void promise6UnderWay() {
        unchanging(Halls::busy, x -> x.load(Halls.UNDER_WAY, Halls.WITHOUT), NOT_POSSIBLE);
        unchanging(Halls::busy, x -> x.load(Halls.UNDER_WAY, Halls.THERE), NOT_POSSIBLE);
    }

    static void promise6DeliveredInTime() {
        unchanging(Halls::busy, x -> x.load(Halls.IN_TIME, Halls.WITHOUT), NOT_POSSIBLE);
    }

    static void promise6Lost() {
        unchanging(Halls::busy, x -> x.load(Halls.LOST, Halls.WITHOUT), NOT_POSSIBLE);
    }

    static void promise6VehicleOnTheWayThere() {
        unchanging(Halls::busy, x -> x.load(Halls.FREE, Halls.THERE), NOT_POSSIBLE);
    }

    static void promise6VehicleOnTheWayBack() {
        unchanging(Halls::busy, x -> x.load(Halls.FREE, Halls.BACK), NOT_POSSIBLE);
    }

    static void promise6TheFirstHourInWhichTheVehicleIsBack() {
        FreightSplits x = Halls.busy();
        x.pass(2);
        due("an hour ahead", x.load(Halls.FREE, Halls.BACK), NOT_POSSIBLE);
        x.pass(1);
        due("back", x.load(Halls.FREE, Halls.BACK), 10);
    }

    private static FreightSplits sizes(int room, int... sizes) {
        FreightSplits x = new FreightSplits();
        x.vehicle(room, 200);
        for (int size : sizes) {
            x.consign(1, size, 1, 0, 99, 1);
        }
        return x;
    }

    private static FreightSplits weights(int bound, int... weights) {
        FreightSplits x = new FreightSplits();
        x.vehicle(200, bound);
        for (int weight : weights) {
            x.consign(1, 1, weight, 0, 99, 1);
        }
        return x;
    }

    static void promise6OneThatJustHasRoom() {
        change(() -> sizes(10, 10), x -> x.load(0, 0), 0);
        change(() -> sizes(1, 1), x -> x.load(0, 0), 0);
    }

    static void promise6OneGreaterThanTheRoom() {
        unchanging(() -> sizes(10, 11), x -> x.load(0, 0), NOT_POSSIBLE);
        unchanging(() -> sizes(1, 2), x -> x.load(0, 0), NOT_POSSIBLE);
    }

    static void promise6OneAsHeavyAsTheBound() {
        change(() -> weights(10, 10), x -> x.load(0, 0), 199);
    }

    static void promise6OneHeavierThanTheBound() {
        unchanging(() -> weights(10, 11), x -> x.load(0, 0), NOT_POSSIBLE);
        unchanging(() -> weights(1, 2), x -> x.load(0, 0), NOT_POSSIBLE);
    }

    static void promise6TheSizesOfTheLoadBindTogether() {
        FreightSplits x = sizes(20, 12, 9, 8, 1);
        due("12", x.load(0, 0), 8);
        due("9 more", x.load(1, 0), NOT_POSSIBLE);
        due("8 more", x.load(2, 0), 0);
        due("1 more in a full vehicle", x.load(3, 0), NOT_POSSIBLE);
    }

    static void promise6TheWeightsOfTheLoadBindTogether() {
        FreightSplits x = weights(20, 12, 9, 8, 1);
        due("12", x.load(0, 0), 199);
        due("9 more", x.load(1, 0), NOT_POSSIBLE);
        due("8 more", x.load(2, 0), 198);
        due("1 more in a full vehicle", x.load(3, 0), NOT_POSSIBLE);
    }

    static void promise6TheGreatestVehicle() {
        FreightSplits x = new FreightSplits();
        x.vehicle(200, 200);
        x.consign(1, 99, 99, 0, 9, 1);
        x.consign(1, 99, 99, 0, 9, 1);
        x.consign(1, 3, 2, 0, 9, 1);
        x.consign(1, 2, 3, 0, 9, 1);
        x.consign(1, 2, 2, 0, 9, 1);
        due("99", x.load(0, 0), 101);
        due("198", x.load(1, 0), 2);
        due("201 of size", x.load(2, 0), NOT_POSSIBLE);
        due("201 of weight", x.load(3, 0), NOT_POSSIBLE);
        due("200 of both", x.load(4, 0), 0);
    }

    static void promise6AllSixteenInOneVehicle() {
        FreightSplits x = new FreightSplits();
        x.vehicle(16, 16);
        for (int i = 0; i < 16; i++) {
            x.consign(4, 1, 1, 0, 9, 1);
        }
        for (int i = 0; i < 16; i++) {
            due("load", x.load(i, 0), 15 - i);
        }
        due("its load", x.vehicleOf(0, 5), 0xffff);
    }

    static void promise6ForAnotherPlaceThanTheLoad() {
        unchanging(Halls::busy, x -> x.load(Halls.OTHER, Halls.WITH_LOAD), NOT_POSSIBLE);
    }

    static void promise6ForAnyPlaceIntoAnEmptyVehicle() {
        for (int place = 1; place <= 4; place++) {
            FreightSplits x = new FreightSplits();
            x.vehicle(20, 20);
            x.consign(place, 5, 5, 0, 9, 1);
            due("load", x.load(0, 0), 15);
            due("its place", x.vehicleOf(0, 6), place);
        }
    }

    static void promise6ForAnotherPlaceOnceTheLoadIsOut() {
        FreightSplits x = Halls.busy();
        x.unload(Halls.LOADED);
        due("load", x.load(Halls.OTHER, Halls.WITH_LOAD), 11);
        due("the place binds", x.load(Halls.LOADED, Halls.WITH_LOAD), NOT_POSSIBLE);
    }

    static void promise6TheRoomOfTheTripBeforeIsFreeAgain() {
        FreightSplits x = sizes(10, 10, 10);
        x.load(0, 0);
        x.depart(0);
        x.pass(6);
        due("load", x.load(1, 0), 0);
        due("its load", x.vehicleOf(0, 5), 0b10);
    }

    static void promise6OneThatWouldBeLostCanBeLoaded() {
        FreightSplits x = new FreightSplits();
        x.vehicle(20, 20);
        x.consign(4, 5, 5, 0, 1, 1);
        x.pass(9);
        due("load", x.load(0, 0), 15);
    }

    static void promise6AtTheLastHour() {
        change(Halls::atTheEnd, x -> x.load(1, 0), 15);
    }

    static void promise6ItIsLoadedThen() {
        FreightSplits x = Halls.busy();
        due("load", x.load(Halls.PART, Halls.WITH_LOAD), 10);
        due("where it is", x.consignmentOf(Halls.PART, 6), 1);
        due("its vehicle", x.consignmentOf(Halls.PART, 7), Halls.WITH_LOAD);
        due("the load", x.vehicleOf(Halls.WITH_LOAD, 5), 1 << Halls.PART | 1 << Halls.LOADED);
        due("in the hall", x.count(3), 0b11000011);
    }
}
