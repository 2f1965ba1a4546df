/** The cases of promise 1: FreightSplits(). */
public final class Promise01NewObjectTest extends Cases {
    public static void main(String[] args) {
        run(Promise01NewObjectTest.class, 1);
    }

    static void promise1HallIsEmpty() {
        FreightSplits x = new FreightSplits();
        due("consignments made", x.count(0), 0);
        due("consignments in the hall", x.count(3), 0);
        due("none is hopeless", x.hopeless(), 0);
    }

    static void promise1NoConsignmentOfAnyNumber() {
        FreightSplits x = new FreightSplits();
        for (int number = -1; number <= 16; number++) {
            for (int what = 0; what <= 10; what++) {
                due("consignmentOf(" + number + ", " + what + ")", x.consignmentOf(number, what), INVALID);
            }
        }
    }

    static void promise1NoVehicles() {
        FreightSplits x = new FreightSplits();
        due("vehicles", x.count(1), 0);
        for (int number = -1; number <= 4; number++) {
            for (int what = 0; what <= 9; what++) {
                due("vehicleOf(" + number + ", " + what + ")", x.vehicleOf(number, what), INVALID);
            }
        }
    }

    static void promise1HourIsNought() {
        due("the time", new FreightSplits().count(2), 0);
    }

    static void promise1NothingDeliveredEarnedOrPaid() {
        FreightSplits x = new FreightSplits();
        for (int what = 4; what <= 9; what++) {
            due("count(" + what + ")", x.count(what), 0);
        }
    }

    static void promise1NoOffers() {
        FreightSplits x = new FreightSplits();
        due("offers", x.count(10), 0);
        for (int what = 0; what <= 4; what++) {
            due("offerOf(0, " + what + ")", x.offerOf(0, what), NOT_FOUND);
        }
    }

    static void promise1HistoryIsEmpty() {
        due("states", new FreightSplits().count(11), 0);
        unchanging(Halls::empty, x -> x.undo(), NOT_POSSIBLE);
    }

    static void promise1TextIsEmpty() {
        FreightSplits x = new FreightSplits();
        due("its length", x.count(12), 0);
        due("its fault", x.fault(0), NOT_FOUND);
        due("its fault's reason", x.fault(1), NOT_FOUND);
        due("its commands", x.play(), 0);
    }

    static void promise1SettingsAreTheFirstValues() {
        FreightSplits x = new FreightSplits();
        due("hours to the next place", x.count(20), 3);
        due("hours without a fee", x.count(21), 8);
        due("coins for an hour too early", x.count(22), 1);
    }

    static void promise1ObjectsAreApart() {
        FreightSplits x = new FreightSplits();
        FreightSplits y = Halls.busy();
        same("a new object after others were used:", x, new FreightSplits());
        y.pass(9);
        y.clearText();
        y.set(0, 24);
        same("an object beside which another was changed:", x, new FreightSplits());
        x.pass(1);
        due("the other's time", y.count(2), 12);
    }

    static void promise1ItIsUsedForFiveHundredAndTwelveCalls() {
        FreightSplits x = new FreightSplits();
        for (int i = 1; i <= 511; i++) {
            due("call " + i, x.pass(1), 0);
        }
        due("the last call", x.count(2), 511);
    }

    static void promise1CallsOnWhatIsNotThereAreRefused() {
        unchanging(Halls::empty, x -> x.split(0, 1, 1), INVALID);
        unchanging(Halls::empty, x -> x.join(0, 1), INVALID);
        unchanging(Halls::empty, x -> x.load(0, 0), INVALID);
        unchanging(Halls::empty, x -> x.unload(0), INVALID);
        unchanging(Halls::empty, x -> x.fill(0, 1, 0), INVALID);
        unchanging(Halls::empty, x -> x.depart(0), INVALID);
        unchanging(Halls::empty, x -> x.wouldFill(0, 1, 0), INVALID);
        unchanging(Halls::empty, x -> x.wouldEarn(0), INVALID);
    }
}
