/** The cases of promise 14: vehicleOf. */
public final class Promise14VehicleOfTest extends Cases {
    public static void main(String[] args) {
        run(Promise14VehicleOfTest.class, 14);
    }

    static void promise14VehicleLeast() {
        edgeOfQuestion(Halls::busy, (x, vehicle) -> x.vehicleOf(vehicle, 3), 0, 5, -1);
    }

    static void promise14VehicleMost() {
        edgeOfQuestion(Halls::busy, (x, vehicle) -> x.vehicleOf(vehicle, 8), 3, 12, 4);
        edgeOfQuestion(Halls::atTheEnd, (x, vehicle) -> x.vehicleOf(vehicle, 3), 1, 5, 2);
    }

    static void promise14WhatLeast() {
        edgeOfQuestion(Halls::busy, (x, what) -> x.vehicleOf(Halls.BACK, what), 0, 20, -1);
    }

    static void promise14WhatMost() {
        edgeOfQuestion(Halls::busy, (x, what) -> x.vehicleOf(Halls.BACK, what), 9, 0, 10);
    }

    static void promise14BothWrong() {
        unchanging(Halls::busy, x -> x.vehicleOf(-1, -1), INVALID);
        unchanging(Halls::busy, x -> x.vehicleOf(Halls.NO_VEHICLE, 10), INVALID);
    }

    static void promise14NoSuchOneComesAheadOfNotFound() {
        unchanging(Halls::atTheEnd, x -> x.vehicleOf(2, 6), INVALID);
        unchanging(Halls::atTheEnd, x -> x.vehicleOf(2, 7), INVALID);
    }

    static void promise14InTheHallWithoutALoad() {
        isVehicle(Halls.busy(), Halls.WITHOUT, 20, 20, 0, 0, 0, 0, NOT_FOUND, NOT_FOUND, 0, 0);
    }

    static void promise14InTheHallWithALoad() {
        isVehicle(Halls.busy(), Halls.WITH_LOAD, 20, 20, 0, 5, 5, 0b10, 1, NOT_FOUND, 0, 0);
    }

    static void promise14OnTheWayThere() {
        isVehicle(Halls.busy(), Halls.THERE, 20, 20, 1, 5, 5, 0b100, 1, 5, 0, 0);
    }

    static void promise14OnTheWayBack() {
        isVehicle(Halls.busy(), Halls.BACK, 20, 20, 2, 0, 0, 0, 1, 6, 12, 0);
    }

    static void promise14BackAgain() {
        FreightSplits x = Halls.busy();
        x.pass(3);
        isVehicle(x, Halls.BACK, 20, 20, 0, 0, 0, 0, NOT_FOUND, NOT_FOUND, 0, 1);
    }

    static void promise14LoadedForTheNextTrip() {
        FreightSplits x = Halls.busy();
        x.pass(3);
        x.load(Halls.OTHER, Halls.BACK);
        isVehicle(x, Halls.BACK, 20, 20, 0, 9, 9, 0b10000000, 2, NOT_FOUND, 0, 1);
        x.depart(Halls.BACK);
        isVehicle(x, Halls.BACK, 20, 20, 1, 9, 9, 0b10000000, 2, 12, 0, 1);
    }

    static void promise14AFullVehicle() {
        FreightSplits x = Halls.fullyLoaded();
        for (int i = 0; i < 4; i++) {
            isVehicle(x, i, 40, 20, 0, 40, 20, 0xf << 4 * i, i + 1, NOT_FOUND, 0, 0);
        }
    }

    static void promise14TheLeastAndTheGreatestVehicle() {
        FreightSplits x = new FreightSplits();
        x.vehicle(1, 200);
        x.vehicle(200, 1);
        isVehicle(x, 0, 1, 200);
        isVehicle(x, 1, 200, 1);
    }

    static void promise14SizeAndWeightAreToldApart() {
        FreightSplits x = new FreightSplits();
        x.vehicle(30, 40);
        x.consign(2, 3, 11, 0, 9, 1);
        x.consign(2, 4, 17, 0, 9, 1);
        x.fill(0, 2, 0);
        isVehicle(x, 0, 30, 40, 0, 7, 28, 0b11, 2, NOT_FOUND, 0, 0);
    }

    static void promise14TheHourOfArrivingBeyondTheLastOne() {
        FreightSplits x = Halls.atTheEnd();
        isVehicle(x, 1, 20, 20, 1, 5, 5, 0b1, 2, 9005, 0, 0);
    }

    static void promise14TripsAreCountedOnceTheyEnded() {
        FreightSplits x = new FreightSplits();
        x.vehicle(20, 20);
        for (int i = 0; i < 3; i++) {
            x.consign(1, 5, 5, 0, 99, 1);
            x.load(i, 0);
            x.depart(0);
            x.pass(5);
            due("trips up to now", x.vehicleOf(0, 9), i);
            x.pass(1);
            due("trips then", x.vehicleOf(0, 9), i + 1);
        }
    }
}
