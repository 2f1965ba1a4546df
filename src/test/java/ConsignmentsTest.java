/** Promises 1 to 4 and 13: a new object, consign, split, join, consignmentOf. */
public final class ConsignmentsTest {
    public static void main(String[] args) {
        aNewObject();
        consignTakesItsRanges();
        consignHasALimit();
        consignIsInTheHallFromNowOn();
        splitSharesSizeWeightWorth();
        splitRefuses();
        joinPutsTogether();
        joinRefuses();
        consignmentOfTellsWhereItIs();
        consignmentOfRefuses();
        Expect.finish();
    }

    private static void aNewObject() {
        FreightSplits x = new FreightSplits();
        for (int what = 0; what <= 12; what++) {
            Expect.due("count(" + what + ")", x.count(what), 0);
        }
        Expect.due("count(20)", x.count(20), 3);
        Expect.due("count(21)", x.count(21), 8);
        Expect.due("count(22)", x.count(22), 1);
        Expect.due("hopeless()", x.hopeless(), 0);
        Expect.due("undo()", x.undo(), Expect.NOT_POSSIBLE);
        Expect.due("consignmentOf(0, 0)", x.consignmentOf(0, 0), Expect.INVALID);
        Expect.due("vehicleOf(0, 0)", x.vehicleOf(0, 0), Expect.INVALID);
        Expect.due("offerOf(0, 0)", x.offerOf(0, 0), Expect.NOT_FOUND);
        FreightSplits y = new FreightSplits();
        x.vehicle(1, 1);
        Expect.due("another object's count(1)", y.count(1), 0);
    }

    private static void consignTakesItsRanges() {
        FreightSplits x = new FreightSplits();
        Expect.due("least", x.consign(1, 1, 1, 0, 0, 0), 0);
        Expect.due("most", x.consign(4, 99, 99, 9999, 9999, 999), 1);
        int[][] wrong = {
            {0, 5, 5, 1, 2, 3}, {5, 5, 5, 1, 2, 3}, {1, 0, 5, 1, 2, 3}, {1, 100, 5, 1, 2, 3},
            {1, 5, 0, 1, 2, 3}, {1, 5, 100, 1, 2, 3}, {1, 5, 5, -1, 2, 3}, {1, 5, 5, 3, 2, 3},
            {1, 5, 5, 1, 10000, 3}, {1, 5, 5, 10000, 10000, 3}, {1, 5, 5, 1, 2, -1},
            {1, 5, 5, 1, 2, 1000}, {Integer.MIN_VALUE, 5, 5, 1, 2, 3},
            {1, Integer.MAX_VALUE, 5, 1, 2, 3}, {1, 5, 5, Integer.MIN_VALUE, Integer.MAX_VALUE, 3}};
        for (int[] w : wrong) {
            Expect.due("wrong consign", x.consign(w[0], w[1], w[2], w[3], w[4], w[5]), Expect.INVALID);
        }
        Expect.due("count(0)", x.count(0), 2);
        Expect.due("count(11)", x.count(11), 2);
        int[] due = {4, 99, 99, 9999, 9999, 999, 0};
        for (int what = 0; what < due.length; what++) {
            Expect.due("consignmentOf(1, " + what + ")", x.consignmentOf(1, what), due[what]);
        }
    }

    private static void consignHasALimit() {
        FreightSplits x = new FreightSplits();
        for (int i = 0; i < 14; i++) {
            Expect.due("consign " + i, x.consign(2, 10, 10, 0, 9, 10), i);
        }
        Expect.due("split(0, 5, 5)", x.split(0, 5, 5), 14);
        Expect.due("join(0, 14)", x.join(0, 14), 0);
        Expect.due("split(0, 5, 5)", x.split(0, 5, 5), 15);
        Expect.due("join(0, 15)", x.join(0, 15), 0);
        Expect.due("count(0)", x.count(0), 16);
        Expect.due("count(3)", x.count(3), 0x3fff);
        Expect.due("consign a 17th", x.consign(2, 10, 10, 0, 9, 10), Expect.LIMIT);
        Expect.due("a wrong 17th", x.consign(5, 10, 10, 0, 9, 10), Expect.INVALID);
        Expect.due("split a 17th", x.split(0, 5, 5), Expect.LIMIT);
        Expect.due("a wrong split", x.split(0, 10, 5), Expect.INVALID);
        x.vehicle(50, 50);
        x.load(0, 0);
        Expect.due("split a loaded one", x.split(0, 5, 5), Expect.NOT_POSSIBLE);
    }

    private static void consignIsInTheHallFromNowOn() {
        FreightSplits x = new FreightSplits();
        x.pass(5);
        x.consign(3, 10, 10, 0, 90, 10);
        Expect.due("consignmentOf(0, 10)", x.consignmentOf(0, 10), 0);
        x.pass(8);
        Expect.due("consignmentOf(0, 10)", x.consignmentOf(0, 10), 8);
        Expect.due("count(8)", x.count(8), 0);
        x.pass(1);
        Expect.due("count(8)", x.count(8), 1);
    }

    private static void splitSharesSizeWeightWorth() {
        FreightSplits x = new FreightSplits();
        x.consign(3, 10, 20, 4, 50, 99);
        x.pass(2);
        x.vehicle(50, 50);
        x.load(0, 0);
        x.unload(0);
        Expect.due("split(0, 7, 1)", x.split(0, 7, 1), 1);
        int[] part = {3, 7, 1, 4, 50, 69, 0, Expect.NOT_FOUND, Expect.NOT_FOUND, 3, 2};
        int[] rest = {3, 3, 19, 4, 50, 30, 0, 0, Expect.NOT_FOUND, 3, 2};
        for (int what = 0; what <= 10; what++) {
            Expect.due("part's " + what, x.consignmentOf(1, what), part[what]);
            Expect.due("rest's " + what, x.consignmentOf(0, what), rest[what]);
        }
        x.consign(3, 5, 5, 0, 9, 0);
        Expect.due("split(0, 2, 18)", x.split(0, 2, 18), 3);
        Expect.due("part of a part", x.split(3, 1, 17), 4);
        Expect.due("its whole", x.consignmentOf(4, 9), 0b11011);
        Expect.due("another's whole", x.consignmentOf(2, 9), 0b100);
        Expect.due("30 coins for 2 of 3", x.consignmentOf(3, 5) + x.consignmentOf(4, 5), 20);
    }

    private static void splitRefuses() {
        FreightSplits x = new FreightSplits();
        x.consign(1, 10, 8, 0, 50, 99);
        x.consign(1, 1, 8, 0, 50, 99);
        int[][] wrong = {{-1, 5, 5}, {2, 5, 5}, {16, 5, 5}, {0, 0, 5}, {0, 10, 5}, {0, 5, 0},
            {0, 5, 8}, {0, -1, 5}, {1, 1, 5}, {0, 5, Integer.MIN_VALUE}, {Integer.MAX_VALUE, 1, 1}};
        for (int[] w : wrong) {
            Expect.due("wrong split", x.split(w[0], w[1], w[2]), Expect.INVALID);
        }
        x.vehicle(50, 50);
        x.load(0, 0);
        Expect.due("split loaded", x.split(0, 9, 7), Expect.NOT_POSSIBLE);
        Expect.due("wrong split loaded", x.split(0, 10, 7), Expect.INVALID);
        x.depart(0);
        Expect.due("split under way", x.split(0, 9, 7), Expect.NOT_POSSIBLE);
        x.pass(3);
        Expect.due("split delivered", x.split(0, 9, 7), Expect.NOT_POSSIBLE);
        Expect.due("count(0)", x.count(0), 2);
        Expect.due("count(11)", x.count(11), 4);
    }

    private static void joinPutsTogether() {
        FreightSplits x = new FreightSplits();
        x.consign(3, 10, 20, 4, 50, 99);
        x.vehicle(50, 50);
        x.split(0, 6, 6);
        x.split(1, 3, 3);
        x.load(2, 0);
        x.unload(2);
        x.pass(3);
        Expect.due("join(2, 1)", x.join(2, 1), 1);
        Expect.due("join(1, 0)", x.join(1, 0), 0);
        int[] whole = {3, 10, 20, 4, 50, 99, 0, Expect.NOT_FOUND, Expect.NOT_FOUND, 1, 3};
        for (int what = 0; what <= 10; what++) {
            Expect.due("whole's " + what, x.consignmentOf(0, what), whole[what]);
        }
        Expect.due("count(0)", x.count(0), 3);
        Expect.due("count(3)", x.count(3), 1);
        Expect.due("consign", x.consign(1, 1, 1, 1, 1, 1), 3);
        Expect.due("a gone one", x.consignmentOf(1, 0), Expect.INVALID);
        Expect.due("load a gone one", x.load(1, 0), Expect.INVALID);
        Expect.due("unload a gone one", x.unload(1), Expect.INVALID);
        Expect.due("split a gone one", x.split(1, 1, 1), Expect.INVALID);
        Expect.due("join a gone one", x.join(0, 1), Expect.INVALID);
        Expect.due("fill", x.fill(0, 3, 0), 1);
        x.depart(0);
        Expect.due("pass(9)", x.pass(9), 1);
        Expect.due("count(6)", x.count(6), 99);
    }

    private static void joinRefuses() {
        FreightSplits x = new FreightSplits();
        x.consign(1, 10, 10, 0, 50, 99);
        x.consign(1, 10, 10, 0, 50, 99);
        x.split(0, 5, 5);
        int[][] wrong = {{0, 0}, {-1, 0}, {0, -1}, {3, 0}, {0, 3}, {7, 7},
            {Integer.MIN_VALUE, Integer.MAX_VALUE}};
        for (int[] w : wrong) {
            Expect.due("wrong join", x.join(w[0], w[1]), Expect.INVALID);
        }
        Expect.due("not of one whole", x.join(0, 1), Expect.NOT_POSSIBLE);
        Expect.due("not of one whole", x.join(2, 1), Expect.NOT_POSSIBLE);
        x.vehicle(50, 50);
        x.load(2, 0);
        Expect.due("one is loaded", x.join(0, 2), Expect.NOT_POSSIBLE);
        Expect.due("one is loaded", x.join(2, 0), Expect.NOT_POSSIBLE);
        x.depart(0);
        Expect.due("one is under way", x.join(0, 2), Expect.NOT_POSSIBLE);
        x.pass(9);
        Expect.due("one is delivered", x.join(2, 0), Expect.NOT_POSSIBLE);
        Expect.due("its whole stays", x.consignmentOf(0, 9), 0b101);
        x.load(0, 0);
        Expect.due("load of the other", x.vehicleOf(0, 3), 5);
    }

    private static void consignmentOfTellsWhereItIs() {
        FreightSplits x = new FreightSplits();
        x.consign(1, 10, 10, 0, 9, 99);
        x.consign(1, 10, 10, 0, 2, 99);
        x.vehicle(50, 50);
        x.vehicle(50, 50);
        Expect.due("in none", x.consignmentOf(0, 7), Expect.NOT_FOUND);
        x.load(0, 0);
        Expect.due("loaded", x.consignmentOf(0, 6), 1);
        Expect.due("in 0", x.consignmentOf(0, 7), 0);
        x.unload(0);
        Expect.due("in the hall", x.consignmentOf(0, 6), 0);
        Expect.due("was in 0", x.consignmentOf(0, 7), 0);
        x.load(0, 1);
        x.load(1, 1);
        x.pass(1);
        x.depart(1);
        Expect.due("under way", x.consignmentOf(0, 6), 2);
        Expect.due("in 1", x.consignmentOf(0, 7), 1);
        Expect.due("hour of delivery", x.consignmentOf(0, 8), Expect.NOT_FOUND);
        Expect.due("pass(4)", x.pass(4), 2);
        Expect.due("in time", x.consignmentOf(0, 6), 3);
        Expect.due("lost", x.consignmentOf(1, 6), 4);
        Expect.due("hour of delivery", x.consignmentOf(0, 8), 4);
        Expect.due("hour of delivery", x.consignmentOf(1, 8), 4);
        Expect.due("was in 1", x.consignmentOf(0, 7), 1);
        Expect.due("hours in the hall", x.consignmentOf(0, 10), 1);
        Expect.due("hours in the hall", x.consignmentOf(1, 10), 1);
    }

    private static void consignmentOfRefuses() {
        FreightSplits x = new FreightSplits();
        x.consign(1, 10, 10, 0, 9, 99);
        int[][] wrong = {{-1, 0}, {1, 0}, {16, 0}, {0, -1}, {0, 11}, {1, 7}, {1, 8},
            {Integer.MIN_VALUE, 0}, {Integer.MAX_VALUE, 0}, {0, Integer.MIN_VALUE}};
        for (int[] w : wrong) {
            Expect.due("wrong consignmentOf", x.consignmentOf(w[0], w[1]), Expect.INVALID);
        }
    }
}
