/** The cases of promise 16: count. */
public final class Promise16CountTest extends Cases {
    public static void main(String[] args) {
        run(Promise16CountTest.class, 16);
    }

    static void promise16WhatLeast() {
        edgeOfQuestion(Halls::busy, (x, what) -> x.count(what), 0, 8, -1);
    }

    static void promise16WhatMostBelowTheSettings() {
        edgeOfQuestion(Halls::busy, (x, what) -> x.count(what), 12, 12, 13);
    }

    static void promise16TheFirstSetting() {
        edgeOfQuestion(Halls::busy, (x, what) -> x.count(what), 20, 3, 19);
    }

    static void promise16TheLastSetting() {
        edgeOfQuestion(Halls::busy, (x, what) -> x.count(what), 22, 2, 23);
    }

    static void promise16BetweenTheLastOneAndTheSettings() {
        for (int what = 13; what <= 19; what++) {
            due("count(" + what + ")", Halls.busy().count(what), INVALID);
        }
    }

    static void promise16AnEmptyHall() {
        countsAre(Halls.empty(), 0, 0, 0, 0, 0, 0, 0, 0, 0, 0, 0, 0, 0);
    }

    static void promise16AFullHall() {
        countsAre(Halls.full(), 16, 4, 0, 0xffff, 0, 0, 0, 0, 0, 0, 10, 4, 80);
    }

    static void promise16AllLoaded() {
        due("loaded ones are in the hall", Halls.fullyLoaded().count(3), 0xffff);
    }

    static void promise16AllDelivered() {
        FreightSplits x = Halls.fullyLoaded();
        for (int i = 0; i < 4; i++) {
            x.depart(i);
        }
        x.pass(24);
        countsAre(x, 16, 4, 24, 0, 16, 0, 120, 844, 0, 0, 2, 4, 80);
    }

    static void promise16AllLost() {
        FreightSplits x = Halls.fullyLoaded();
        x.pass(40);
        for (int i = 0; i < 4; i++) {
            x.depart(i);
        }
        x.pass(24);
        countsAre(x, 16, 4, 64, 0, 0, 16, 0, 844, 16 * 32, 0, 2, 4, 80);
    }

    static void promise16SomethingOfEverything() {
        FreightSplits x = Halls.busy();
        countsAre(x, 8, 4, 3, 0b11000011, 1, 1, 17, 0, 0, 0, 2, 4, 12);
        x.pass(3);
        countsAre(x, 8, 4, 6, 0b11000011, 2, 1, 33, 12, 0, 0, 0, 4, 12);
        x.pass(3);
        countsAre(x, 8, 4, 9, 0b11000011, 2, 1, 33, 42, 4, 0, 0, 4, 12);
    }

    static void promise16ConsignmentsMadeBySplittingAndGone() {
        FreightSplits x = Halls.busy();
        x.join(Halls.FREE, Halls.PART);
        due("made", x.count(0), 8);
        due("in the hall", x.count(3), 0b10000011);
    }

    static void promise16OnesUnderWayAreNotInTheHall() {
        FreightSplits x = Halls.busy();
        x.depart(Halls.WITH_LOAD);
        due("in the hall", x.count(3), 0b11000001);
        due("delivered in time", x.count(4), 1);
        due("lost", x.count(5), 1);
    }

    static void promise16PaidForBeingEarly() {
        FreightSplits x = new FreightSplits();
        x.vehicle(20, 20);
        x.consign(1, 5, 5, 4, 9, 1);
        x.consign(1, 5, 5, 5, 9, 1);
        x.fill(0, 1, 0);
        x.depart(0);
        x.pass(3);
        due("one hour and two", x.count(9), 3);
    }

    static void promise16TheLastHour() {
        due("the time", Halls.atTheEnd().count(2), 9000);
    }

    static void promise16StatesUpToFour() {
        FreightSplits x = new FreightSplits();
        for (int i = 1; i <= 6; i++) {
            x.pass(1);
            due("states", x.count(11), Math.min(i, 4));
        }
    }

    static void promise16TheLengthOfTheText() {
        FreightSplits x = new FreightSplits();
        for (int i = 0; i < 80; i++) {
            due("its length", x.count(12), i);
            x.type('a');
        }
        due("its length", x.count(12), 80);
        x.type('a');
        due("its length", x.count(12), 80);
    }
}
