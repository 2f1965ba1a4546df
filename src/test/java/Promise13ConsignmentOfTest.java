/** The cases of promise 13: consignmentOf. */
public final class Promise13ConsignmentOfTest extends Cases {
    public static void main(String[] args) {
        run(Promise13ConsignmentOfTest.class, 13);
    }

    static void promise13ConsignmentLeast() {
        edgeOfQuestion(Halls::busy, (x, number) -> x.consignmentOf(number, 1), 0, 10, -1);
    }

    static void promise13ConsignmentMost() {
        edgeOfQuestion(Halls::busy, (x, number) -> x.consignmentOf(number, 1), 7, 9, Halls.NONE);
        edgeOfQuestion(Halls::full, (x, number) -> x.consignmentOf(number, 4), 15, 35, 16);
    }

    static void promise13WhatLeast() {
        edgeOfQuestion(Halls::busy, (x, what) -> x.consignmentOf(Halls.OTHER, what), 0, 2, -1);
    }

    static void promise13WhatMost() {
        edgeOfQuestion(Halls::busy, (x, what) -> x.consignmentOf(Halls.OTHER, what), 10, 3, 11);
    }

    static void promise13BothWrong() {
        unchanging(Halls::busy, x -> x.consignmentOf(-1, -1), INVALID);
        unchanging(Halls::busy, x -> x.consignmentOf(Halls.NONE, 11), INVALID);
    }

    static void promise13AGoneOneIsNone() {
        FreightSplits x = Halls.busy();
        for (int what = -1; what <= 11; what++) {
            due("consignmentOf(5, " + what + ")", x.consignmentOf(Halls.GONE, what), INVALID);
        }
    }

    static void promise13NoSuchOneComesAheadOfNotFound() {
        unchanging(Halls::busy, x -> x.consignmentOf(Halls.NONE, 7), INVALID);
        unchanging(Halls::busy, x -> x.consignmentOf(Halls.NONE, 8), INVALID);
        unchanging(Halls::busy, x -> x.consignmentOf(Halls.GONE, 7), INVALID);
        unchanging(Halls::busy, x -> x.consignmentOf(Halls.GONE, 8), INVALID);
    }

    static void promise13WhereItIs() {
        FreightSplits x = Halls.busy();
        int[] where = {0, 1, 2, 3, 4, INVALID, 0, 0, INVALID};
        for (int number = 0; number < where.length; number++) {
            due("consignmentOf(" + number + ", 6)", x.consignmentOf(number, 6), where[number]);
        }
    }

    static void promise13TheVehicleOfOneThatWasInNone() {
        unchanging(Halls::busy, x -> x.consignmentOf(Halls.FREE, 7), NOT_FOUND);
        unchanging(Halls::busy, x -> x.consignmentOf(Halls.PART, 7), NOT_FOUND);
        unchanging(Halls::busy, x -> x.consignmentOf(Halls.OTHER, 7), NOT_FOUND);
    }

    static void promise13TheVehicleInWhichItIsOrWas() {
        FreightSplits x = Halls.busy();
        due("loaded", x.consignmentOf(Halls.LOADED, 7), Halls.WITH_LOAD);
        due("under way", x.consignmentOf(Halls.UNDER_WAY, 7), Halls.THERE);
        due("delivered", x.consignmentOf(Halls.IN_TIME, 7), Halls.BACK);
        due("lost", x.consignmentOf(Halls.LOST, 7), Halls.BACK);
        x.unload(Halls.LOADED);
        due("unloaded", x.consignmentOf(Halls.LOADED, 7), Halls.WITH_LOAD);
        x.load(Halls.LOADED, Halls.WITHOUT);
        due("in the last one", x.consignmentOf(Halls.LOADED, 7), Halls.WITHOUT);
    }

    static void promise13TheVehicleAfterItsNextTrip() {
        FreightSplits x = Halls.busy();
        x.pass(3);
        x.load(Halls.FREE, Halls.BACK);
        x.depart(Halls.BACK);
        due("of the trip before", x.consignmentOf(Halls.IN_TIME, 7), Halls.BACK);
        due("its load is another", x.vehicleOf(Halls.BACK, 5), 1 << Halls.FREE);
        x.pass(3);
        due("its hour is another", x.consignmentOf(Halls.IN_TIME, 8), 3);
        due("the hour of this one", x.consignmentOf(Halls.FREE, 8), 9);
    }

    static void promise13TheHourOfADeliveryThatWasNot() {
        unchanging(Halls::busy, x -> x.consignmentOf(Halls.FREE, 8), NOT_FOUND);
        unchanging(Halls::busy, x -> x.consignmentOf(Halls.LOADED, 8), NOT_FOUND);
        unchanging(Halls::busy, x -> x.consignmentOf(Halls.UNDER_WAY, 8), NOT_FOUND);
    }

    static void promise13TheHourOfItsDelivery() {
        FreightSplits x = Halls.busy();
        due("in time", x.consignmentOf(Halls.IN_TIME, 8), 3);
        due("lost", x.consignmentOf(Halls.LOST, 8), 3);
        x.pass(1);
        due("an hour ahead", x.consignmentOf(Halls.UNDER_WAY, 8), NOT_FOUND);
        x.pass(1);
        due("delivered", x.consignmentOf(Halls.UNDER_WAY, 8), 5);
        x.pass(9);
        due("stays", x.consignmentOf(Halls.UNDER_WAY, 8), 5);
    }

    static void promise13ThePartsOfOneThatIsWhole() {
        FreightSplits x = Halls.busy();
        due("itself alone", x.consignmentOf(Halls.OTHER, 9), 1 << Halls.OTHER);
        due("itself alone", x.consignmentOf(Halls.LOST, 9), 1 << Halls.LOST);
    }

    static void promise13ThePartsWhereverTheyAreButThoseGone() {
        FreightSplits x = Halls.busy();
        for (int number : new int[] {0, 1, 2, 3, 6}) {
            due("consignmentOf(" + number + ", 9)", x.consignmentOf(number, 9), 0b1001111);
        }
    }

    static void promise13AllSixteenParts() {
        FreightSplits x = new FreightSplits();
        x.consign(1, 99, 99, 0, 9, 1);
        for (int i = 0; i < 15; i++) {
            x.split(i, 90 - 5 * i, 90 - 5 * i);
        }
        due("parts", x.consignmentOf(0, 9), 0xffff);
        due("parts", x.consignmentOf(15, 9), 0xffff);
    }

    static void promise13HoursInTheHall() {
        FreightSplits x = Halls.busy();
        due("in the hall", x.consignmentOf(Halls.FREE, 10), 3);
        due("loaded", x.consignmentOf(Halls.LOADED, 10), 3);
        due("until it departed", x.consignmentOf(Halls.UNDER_WAY, 10), 2);
        due("departed at once", x.consignmentOf(Halls.IN_TIME, 10), 0);
        x.pass(6);
        due("in the hall", x.consignmentOf(Halls.FREE, 10), 9);
        due("loaded", x.consignmentOf(Halls.LOADED, 10), 9);
        due("delivered since", x.consignmentOf(Halls.UNDER_WAY, 10), 2);
        due("delivered long ago", x.consignmentOf(Halls.IN_TIME, 10), 0);
    }

    static void promise13HoursInTheHallAtTheLastHour() {
        FreightSplits x = Halls.atTheEnd();
        due("all hours", x.consignmentOf(1, 10), 9000);
        due("until it departed", x.consignmentOf(0, 10), 8999);
    }

    static void promise13ALostOnesWorthStaysItsOwn() {
        FreightSplits x = Halls.busy();
        due("its worth", x.consignmentOf(Halls.LOST, 5), 50);
        due("its size", x.consignmentOf(Halls.LOST, 1), 5);
    }
}
