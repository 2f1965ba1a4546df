/** The cases of promise 12: set, and what "Settings" says of it. */
public final class Promise12SetTest extends Cases {
    public static void main(String[] args) {
        run(Promise12SetTest.class, 12);
    }

    static void promise12WhatLeast() {
        edge(Halls::busy, (x, what) -> x.set(what, 5), 0, 3, -1);
    }

    static void promise12WhatMost() {
        edge(Halls::busy, (x, what) -> x.set(what, 5), 2, 2, 3);
    }

    static void promise12HoursToTheNextPlaceLeast() {
        edge(Halls::busy, (x, value) -> x.set(0, value), 1, 3, 0);
    }

    static void promise12HoursToTheNextPlaceMost() {
        edge(Halls::busy, (x, value) -> x.set(0, value), 24, 3, 25);
    }

    static void promise12HoursWithoutAFeeLeast() {
        edge(Halls::busy, (x, value) -> x.set(1, value), 0, 8, -1);
    }

    static void promise12HoursWithoutAFeeMost() {
        edge(Halls::busy, (x, value) -> x.set(1, value), 99, 8, 100);
    }

    static void promise12CoinsForAnHourTooEarlyLeast() {
        edge(Halls::busy, (x, value) -> x.set(2, value), 0, 2, -1);
    }

    static void promise12CoinsForAnHourTooEarlyMost() {
        edge(Halls::busy, (x, value) -> x.set(2, value), 20, 2, 21);
    }

    static void promise12BothWrong() {
        unchanging(Halls::busy, x -> x.set(-1, -1), INVALID);
        unchanging(Halls::busy, x -> x.set(3, 100), INVALID);
    }

    static void promise12ItTellsWhatItWasAndIsThenAsGiven() {
        FreightSplits x = new FreightSplits();
        int[][] first = {{0, 24, 3}, {1, 99, 8}, {2, 20, 1}};
        for (int[] f : first) {
            due("set", x.set(f[0], f[1]), f[2]);
        }
        due("count(20)", x.count(20), 24);
        due("count(21)", x.count(21), 99);
        due("count(22)", x.count(22), 20);
        int[][] then = {{0, 1, 24}, {1, 0, 99}, {2, 0, 20}};
        for (int[] t : then) {
            due("set", x.set(t[0], t[1]), t[2]);
        }
        due("count(20)", x.count(20), 1);
        due("count(21)", x.count(21), 0);
        due("count(22)", x.count(22), 0);
    }

    static void promise12TheSameValueIsAChange() {
        change(Halls::empty, x -> x.set(0, 3), 3);
        change(Halls::busy, x -> x.set(1, 8), 8);
    }

    static void promise12VehiclesOnTheWayThereStayAsTheyAre() {
        FreightSplits x = Halls.busy();
        x.set(0, 24);
        due("hour of arriving", x.vehicleOf(Halls.THERE, 7), 5);
        due("delivered", x.pass(2), 1);
        due("hour of being back", x.vehicleOf(Halls.THERE, 7), 8);
        x.pass(3);
        due("back", x.vehicleOf(Halls.THERE, 2), 0);
    }

    static void promise12VehiclesOnTheWayBackStayAsTheyAre() {
        FreightSplits x = Halls.busy();
        x.set(0, 1);
        due("hour of being back", x.vehicleOf(Halls.BACK, 7), 6);
        x.pass(2);
        due("not back", x.vehicleOf(Halls.BACK, 2), 2);
        x.pass(1);
        due("back", x.vehicleOf(Halls.BACK, 2), 0);
    }

    static void promise12TheNextTripIsByTheNewWay() {
        FreightSplits x = Halls.busy();
        x.set(0, 24);
        due("depart", x.depart(Halls.WITH_LOAD), 27);
        x.pass(24);
        due("hour of being back", x.vehicleOf(Halls.WITH_LOAD, 7), 51);
    }

    static void promise12FeesAreByTheValueOfTheHour() {
        FreightSplits x = new FreightSplits();
        x.consign(1, 10, 5, 0, 99, 1);
        x.pass(8);
        x.set(1, 7);
        due("none for hours gone by", x.count(8), 0);
        x.pass(1);
        due("a fee", x.count(8), 1);
        x.set(1, 10);
        x.pass(1);
        due("none at the tenth hour", x.count(8), 1);
        x.pass(1);
        due("a fee at the eleventh", x.count(8), 2);
    }

    static void promise12BeingEarlyIsPaidByTheValueOfTheHour() {
        FreightSplits x = new FreightSplits();
        x.vehicle(9, 9);
        x.consign(1, 5, 5, 5, 99, 1);
        x.load(0, 0);
        x.depart(0);
        x.set(2, 7);
        x.pass(3);
        due("paid", x.count(9), 14);
    }
}
