/** The cases of promise 7: unload. */
public final class Promise07UnloadTest extends Cases {
    public static void main(String[] args) {
        run(Promise07UnloadTest.class, 7);
    }

    static void promise7ConsignmentLeast() {
        edge(Halls::fullyLoaded, (x, number) -> x.unload(number), 0, 0, -1);
    }

    static void promise7ConsignmentMost() {
        edge(Halls::fullyLoaded, (x, number) -> x.unload(number), 15, 3, 16);
        unchanging(Halls::busy, x -> x.unload(Halls.NONE), INVALID);
    }

    static void promise7AGoneOneIsNone() {
        unchanging(Halls::busy, x -> x.unload(Halls.GONE), INVALID);
    }

    static void promise7InTheHallNotLoaded() {
        unchanging(Halls::busy, x -> x.unload(Halls.FREE), NOT_POSSIBLE);
        unchanging(Halls::busy, x -> x.unload(Halls.OTHER), NOT_POSSIBLE);
    }

    static void promise7UnderWay() {
        unchanging(Halls::busy, x -> x.unload(Halls.UNDER_WAY), NOT_POSSIBLE);
    }

    static void promise7DeliveredInTime() {
        unchanging(Halls::busy, x -> x.unload(Halls.IN_TIME), NOT_POSSIBLE);
    }

    static void promise7Lost() {
        unchanging(Halls::busy, x -> x.unload(Halls.LOST), NOT_POSSIBLE);
    }

    static void promise7UnloadedTwice() {
        FreightSplits x = Halls.busy();
        due("unload", x.unload(Halls.LOADED), Halls.WITH_LOAD);
        due("again", x.unload(Halls.LOADED), NOT_POSSIBLE);
    }

    static void promise7EachOfTheVehicles() {
        for (int number = 0; number < 16; number++) {
            FreightSplits x = Halls.fullyLoaded();
            due("unload", x.unload(number), number / 4);
            due("its load", x.vehicleOf(number / 4, 5), (0xf << number / 4 * 4) - (1 << number));
        }
    }

    static void promise7ItIsInTheHallThen() {
        FreightSplits x = Halls.busy();
        x.unload(Halls.LOADED);
        due("where it is", x.consignmentOf(Halls.LOADED, 6), 0);
        due("where it was last", x.consignmentOf(Halls.LOADED, 7), Halls.WITH_LOAD);
        due("hours in the hall", x.consignmentOf(Halls.LOADED, 10), 3);
        due("in the hall", x.count(3), 0b11000011);
        due("the vehicle has no load", x.vehicleOf(Halls.WITH_LOAD, 5), 0);
        due("the vehicle has no place", x.vehicleOf(Halls.WITH_LOAD, 6), NOT_FOUND);
    }

    static void promise7TheOthersOfTheLoadStay() {
        FreightSplits x = Halls.busy();
        x.load(Halls.PART, Halls.WITH_LOAD);
        due("unload", x.unload(Halls.LOADED), Halls.WITH_LOAD);
        due("the load", x.vehicleOf(Halls.WITH_LOAD, 5), 1 << Halls.PART);
        due("its size", x.vehicleOf(Halls.WITH_LOAD, 3), 5);
        due("its place", x.vehicleOf(Halls.WITH_LOAD, 6), 1);
    }

    static void promise7TheRoomIsFreeAgain() {
        FreightSplits x = Halls.fullyLoaded();
        due("a full vehicle", x.vehicleOf(0, 3), 40);
        x.unload(2);
        due("load", x.load(2, 0), 0);
    }

    static void promise7UndoLoadsItAgain() {
        FreightSplits x = Halls.busy();
        x.unload(Halls.LOADED);
        x.undo();
        due("where it is", x.consignmentOf(Halls.LOADED, 6), 1);
    }
}
