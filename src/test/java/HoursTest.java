/** Promises 10 to 12, 15 and 16: offer, pass, set, offerOf, count. */
public final class HoursTest {
    public static void main(String[] args) {
        offerTakesItsRanges();
        offersAreGoneWhenTheyHoldNoMore();
        offersAreTakenByPrice();
        offersHoldInTheHourOfArriving();
        twoVehiclesTakeByNumbers();
        passTakesItsRange();
        passEndsAtTheLastHour();
        deliveriesEarnOrAreLost();
        beingEarlyIsPaid();
        stayingIsPaid();
        setTakesItsRanges();
        countRefuses();
        Expect.finish();
    }

    private static void offerTakesItsRanges() {
        FreightSplits x = new FreightSplits();
        int[][] wrong = {{0, 1, 1, 1, 1}, {5, 1, 1, 1, 1}, {1, 0, 1, 1, 1}, {1, 100, 1, 1, 1},
            {1, 1, 0, 1, 1}, {1, 1, 100, 1, 1}, {1, 1, 1, -1, 1}, {1, 1, 1, 1000, 1},
            {1, 1, 1, 1, -1}, {1, 1, 1, 1, 100}, {1, 1, 1, 1, Integer.MAX_VALUE}};
        for (int[] w : wrong) {
            Expect.due("wrong offer", x.offer(w[0], w[1], w[2], w[3], w[4]), Expect.INVALID);
        }
        x.pass(7);
        Expect.due("least", x.offer(1, 1, 1, 0, 0), 1);
        Expect.due("most", x.offer(4, 99, 98, 999, 99), 2);
        int[] due = {4, 99, 98, 999, 106};
        for (int what = 0; what <= 4; what++) {
            Expect.due("offerOf(1, " + what + ")", x.offerOf(1, what), due[what]);
        }
        Expect.due("offerOf(0, 4)", x.offerOf(0, 4), 7);
        for (int i = 3; i <= 10; i++) {
            Expect.due("offer", x.offer(2, 1, 1, 1, 1), i);
        }
        Expect.due("an 11th", x.offer(2, 1, 1, 1, 1), Expect.LIMIT);
        Expect.due("a wrong 11th", x.offer(2, 1, 1, 1, 100), Expect.INVALID);
        Expect.due("offerOf(9, 0)", x.offerOf(9, 0), 2);
        int[][] notThere = {{10, 0}, {11, 4}, {Integer.MAX_VALUE, 0}};
        for (int[] n : notThere) {
            Expect.due("not so many", x.offerOf(n[0], n[1]), Expect.NOT_FOUND);
        }
        int[][] wrongOf = {{-1, 0}, {0, -1}, {0, 5}, {10, 5}, {99, -1}, {Integer.MIN_VALUE, 0}};
        for (int[] w : wrongOf) {
            Expect.due("wrong offerOf", x.offerOf(w[0], w[1]), Expect.INVALID);
        }
    }

    private static void offersAreGoneWhenTheyHoldNoMore() {
        FreightSplits x = new FreightSplits();
        x.offer(1, 1, 1, 10, 3);
        x.offer(2, 2, 2, 20, 1);
        x.offer(3, 3, 3, 30, 0);
        x.offer(4, 4, 4, 40, 2);
        x.pass(1);
        Expect.due("count(10) at 1", x.count(10), 3);
        Expect.due("offerOf(2, 0)", x.offerOf(2, 0), 4);
        x.pass(1);
        Expect.due("count(10) at 2", x.count(10), 2);
        Expect.due("offerOf(1, 3)", x.offerOf(1, 3), 40);
        Expect.due("a new one is last", x.offer(1, 9, 9, 9, 9), 3);
        Expect.due("offerOf(0, 3)", x.offerOf(0, 3), 10);
        Expect.due("offerOf(2, 1)", x.offerOf(2, 1), 9);
        x.pass(2);
        Expect.due("count(10) at 4", x.count(10), 1);
        Expect.due("offerOf(0, 1)", x.offerOf(0, 1), 9);
        Expect.due("offerOf(1, 1)", x.offerOf(1, 1), Expect.NOT_FOUND);
        Expect.due("count(7)", x.count(7), 0);
    }

    private static FreightSplits atPlaceOne(int room, int weight, int vehicles) {
        FreightSplits x = new FreightSplits();
        for (int i = 0; i < vehicles; i++) {
            x.vehicle(room, weight);
            x.consign(1, 1, 1, 0, 99, 1);
            x.load(i, i);
            x.depart(i);
        }
        return x;
    }

    private static void offersAreTakenByPrice() {
        FreightSplits x = atPlaceOne(20, 20, 1);
        x.offer(1, 8, 8, 30, 9);
        x.offer(1, 8, 8, 50, 9);
        x.offer(1, 8, 8, 30, 9);
        x.offer(2, 8, 8, 90, 9);
        x.offer(1, 1, 21, 90, 9);
        x.offer(1, 21, 1, 90, 9);
        x.offer(1, 4, 5, 29, 9);
        x.offer(1, 4, 4, 1, 9);
        x.offer(1, 1, 1, 0, 9);
        x.pass(3);
        Expect.due("50 + 30 + 1", x.vehicleOf(0, 8), 81);
        Expect.due("left", x.count(10), 6);
        int[] prices = {30, 90, 90, 90, 29, 0};
        for (int i = 0; i < 6; i++) {
            Expect.due("offerOf(" + i + ", 3)", x.offerOf(i, 3), prices[i]);
        }
        Expect.due("not earned yet", x.count(7), 0);
        x.pass(3);
        Expect.due("earned", x.count(7), 81);
        Expect.due("brings no more", x.vehicleOf(0, 8), 0);
        ofSamePricesTheFirst();
        aPriceOfNoughtIsTaken();
        allOffersAreTaken();
    }

    private static void allOffersAreTaken() {
        FreightSplits x = atPlaceOne(20, 20, 1);
        for (int i = 1; i <= 10; i++) {
            x.offer(1, 2, 2, i, 9);
        }
        x.pass(3);
        Expect.due("brings", x.vehicleOf(0, 8), 55);
        Expect.due("gone", x.count(10), 0);
    }

    private static void ofSamePricesTheFirst() {
        FreightSplits x = atPlaceOne(20, 20, 1);
        x.offer(1, 11, 1, 30, 9);
        x.offer(1, 10, 1, 30, 9);
        x.offer(1, 10, 1, 30, 9);
        x.pass(3);
        Expect.due("the first alone", x.vehicleOf(0, 8), 30);
        Expect.due("left", x.count(10), 2);
        Expect.due("left", x.offerOf(0, 1), 10);
    }

    private static void aPriceOfNoughtIsTaken() {
        FreightSplits x = atPlaceOne(20, 20, 1);
        x.offer(1, 20, 20, 0, 9);
        x.pass(3);
        Expect.due("brings", x.vehicleOf(0, 8), 0);
        Expect.due("gone", x.count(10), 0);
    }

    private static void offersHoldInTheHourOfArriving() {
        FreightSplits x = atPlaceOne(20, 20, 1);
        x.offer(1, 1, 1, 10, 2);
        x.offer(1, 1, 1, 5, 3);
        x.pass(3);
        Expect.due("brings", x.vehicleOf(0, 8), 5);
        Expect.due("gone", x.count(10), 0);
        Expect.due("made too late", x.offer(1, 1, 1, 10, 9), 1);
        x.pass(3);
        Expect.due("earned", x.count(7), 5);
        Expect.due("left", x.count(10), 1);
    }

    private static void twoVehiclesTakeByNumbers() {
        FreightSplits x = atPlaceOne(20, 20, 2);
        x.offer(1, 15, 1, 10, 9);
        x.offer(1, 15, 1, 20, 9);
        Expect.due("pass(3)", x.pass(3), 2);
        Expect.due("vehicle 0", x.vehicleOf(0, 8), 20);
        Expect.due("vehicle 1", x.vehicleOf(1, 8), 10);
        x.pass(3);
        Expect.due("count(7)", x.count(7), 30);
    }

    private static void passTakesItsRange() {
        FreightSplits x = new FreightSplits();
        int[] wrong = {0, -1, 100, Integer.MAX_VALUE, Integer.MIN_VALUE};
        for (int w : wrong) {
            Expect.due("pass(" + w + ")", x.pass(w), Expect.INVALID);
        }
        Expect.due("count(2)", x.count(2), 0);
        Expect.due("pass(1)", x.pass(1), 0);
        Expect.due("pass(99)", x.pass(99), 0);
        Expect.due("count(2)", x.count(2), 100);
        Expect.due("count(11)", x.count(11), 2);
    }

    private static void passEndsAtTheLastHour() {
        FreightSplits x = new FreightSplits();
        for (int i = 0; i < 90; i++) {
            x.pass(99);
        }
        Expect.due("count(2)", x.count(2), 8910);
        Expect.due("pass(91)", x.pass(91), Expect.LIMIT);
        Expect.due("pass(100)", x.pass(100), Expect.INVALID);
        Expect.due("pass(90)", x.pass(90), 0);
        Expect.due("pass(1)", x.pass(1), Expect.LIMIT);
        Expect.due("count(2)", x.count(2), 9000);
        x.consign(4, 10, 10, 9998, 9999, 500);
        x.vehicle(20, 20);
        x.load(0, 0);
        x.set(0, 24);
        x.set(2, 20);
        Expect.due("wouldEarn(0)", x.wouldEarn(0), 4000000 + 500 - 20 * (9998 - 9096));
        Expect.due("depart(0)", x.depart(0), 9096);
    }

    private static void deliveriesEarnOrAreLost() {
        FreightSplits x = new FreightSplits();
        x.vehicle(200, 200);
        x.consign(1, 10, 10, 0, 3, 100);
        x.consign(1, 10, 10, 0, 2, 70);
        x.consign(1, 10, 10, 3, 3, 7);
        x.fill(0, 1, 0);
        x.depart(0);
        Expect.due("pass(2)", x.pass(2), 0);
        Expect.due("pass(1)", x.pass(1), 3);
        int[] due = {3, 1, 3, 0, 2, 1, 107, 0, 0, 0};
        for (int what = 0; what < due.length; what++) {
            Expect.due("count(" + what + ")", x.count(what), due[what]);
        }
        Expect.due("pass(9)", x.pass(9), 0);
        Expect.due("count(6)", x.count(6), 107);
        Expect.due("count(8)", x.count(8), 0);
    }

    private static void beingEarlyIsPaid() {
        FreightSplits x = new FreightSplits();
        x.vehicle(200, 200);
        x.set(2, 3);
        x.consign(1, 10, 10, 4, 9, 100);
        x.consign(1, 10, 10, 13, 99, 50);
        x.consign(1, 10, 10, 3, 3, 0);
        x.fill(0, 1, 0);
        Expect.due("wouldEarn(0)", x.wouldEarn(0), 4000000 + 150 - 33);
        x.depart(0);
        x.pass(3);
        Expect.due("1 + 10 hours of 3 coins", x.count(9), 33);
        Expect.due("count(6)", x.count(6), 150);
        Expect.due("count(4)", x.count(4), 3);
    }

    private static void stayingIsPaid() {
        FreightSplits x = new FreightSplits();
        x.set(1, 2);
        x.vehicle(200, 200);
        x.consign(1, 10, 1, 0, 99, 1);
        x.consign(1, 11, 1, 0, 99, 1);
        x.consign(1, 99, 1, 0, 99, 1);
        x.consign(1, 1, 1, 0, 99, 1);
        x.load(0, 0);
        x.pass(2);
        Expect.due("no fee yet", x.count(8), 0);
        x.pass(1);
        Expect.due("1 + 2 + 10 + 1, loaded ones too", x.count(8), 14);
        x.depart(0);
        x.pass(1);
        Expect.due("not for what is under way", x.count(8), 27);
        x.set(1, 99);
        x.pass(2);
        Expect.due("the setting of now", x.count(8), 27);
        x.set(1, 0);
        x.consign(1, 5, 1, 0, 99, 1);
        x.pass(1);
        Expect.due("a new one, too", x.count(8), 41);
    }

    private static void setTakesItsRanges() {
        FreightSplits x = new FreightSplits();
        int[][] wrong = {{-1, 1}, {3, 1}, {0, 0}, {0, 25}, {1, -1}, {1, 100}, {2, -1}, {2, 21},
            {Integer.MAX_VALUE, 1}, {Integer.MIN_VALUE, 1}, {0, Integer.MIN_VALUE}};
        for (int[] w : wrong) {
            Expect.due("wrong set", x.set(w[0], w[1]), Expect.INVALID);
        }
        int[][] right = {{0, 24, 3}, {0, 1, 24}, {1, 99, 8}, {1, 0, 99}, {2, 20, 1}, {2, 0, 20}};
        for (int[] r : right) {
            Expect.due("set", x.set(r[0], r[1]), r[2]);
            Expect.due("count", x.count(20 + r[0]), r[1]);
        }
        Expect.due("the same once more", x.set(2, 0), 0);
        Expect.due("count(11)", x.count(11), 4);
        Expect.due("undo", x.undo(), 3);
        x.undo();
        Expect.due("count(22)", x.count(22), 20);
    }

    private static void countRefuses() {
        FreightSplits x = new FreightSplits();
        int[] wrong = {-1, 13, 14, 19, 23, 24, Integer.MAX_VALUE, Integer.MIN_VALUE};
        for (int w : wrong) {
            Expect.due("count(" + w + ")", x.count(w), Expect.INVALID);
        }
    }
}
