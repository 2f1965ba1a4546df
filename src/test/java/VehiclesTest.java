/** Promises 5 to 9 and 14: vehicle, load, unload, fill, depart, vehicleOf. */
public final class VehiclesTest {
    public static void main(String[] args) {
        vehicleTakesItsRanges();
        loadLooksAtRoomWeightAndPlace();
        loadRefuses();
        unloadGivesTheVehicle();
        fillByEachRule();
        fillBesidesWhatIsIn();
        fillRefuses();
        departTellsTheHour();
        vehicleOfTellsTheTrip();
        vehicleOfRefuses();
        Expect.finish();
    }

    private static void vehicleTakesItsRanges() {
        FreightSplits x = new FreightSplits();
        int[][] wrong = {{0, 1}, {201, 1}, {1, 0}, {1, 201}, {-5, 5}, {5, Integer.MIN_VALUE},
            {Integer.MAX_VALUE, 5}};
        for (int[] w : wrong) {
            Expect.due("wrong vehicle", x.vehicle(w[0], w[1]), Expect.INVALID);
        }
        Expect.due("least", x.vehicle(1, 1), 0);
        Expect.due("most", x.vehicle(200, 200), 1);
        Expect.due("third", x.vehicle(7, 8), 2);
        Expect.due("fourth", x.vehicle(9, 9), 3);
        Expect.due("fifth", x.vehicle(9, 9), Expect.LIMIT);
        Expect.due("wrong fifth", x.vehicle(0, 9), Expect.INVALID);
        Expect.due("count(1)", x.count(1), 4);
        Expect.due("count(11)", x.count(11), 4);
        int[] due = {7, 8, 0, 0, 0, 0, Expect.NOT_FOUND, Expect.NOT_FOUND, 0, 0};
        for (int what = 0; what <= 9; what++) {
            Expect.due("vehicleOf(2, " + what + ")", x.vehicleOf(2, what), due[what]);
        }
    }

    private static void loadLooksAtRoomWeightAndPlace() {
        FreightSplits x = new FreightSplits();
        x.vehicle(20, 30);
        x.consign(2, 12, 10, 0, 99, 1);
        x.consign(2, 9, 1, 0, 99, 1);
        x.consign(2, 1, 21, 0, 99, 1);
        x.consign(3, 1, 1, 0, 99, 1);
        x.consign(2, 8, 20, 0, 99, 1);
        Expect.due("load", x.load(0, 0), 8);
        Expect.due("too great", x.load(1, 0), Expect.NOT_POSSIBLE);
        Expect.due("too heavy", x.load(2, 0), Expect.NOT_POSSIBLE);
        Expect.due("another place", x.load(3, 0), Expect.NOT_POSSIBLE);
        Expect.due("loaded already", x.load(0, 0), Expect.NOT_POSSIBLE);
        Expect.due("just fits", x.load(4, 0), 0);
        Expect.due("its size", x.vehicleOf(0, 3), 20);
        Expect.due("its weight", x.vehicleOf(0, 4), 30);
        Expect.due("its load", x.vehicleOf(0, 5), 0b10001);
        Expect.due("its place", x.vehicleOf(0, 6), 2);
        x.unload(0);
        x.unload(4);
        Expect.due("no place", x.vehicleOf(0, 6), Expect.NOT_FOUND);
        Expect.due("now another place", x.load(3, 0), 19);
        Expect.due("and another then", x.load(1, 0), Expect.NOT_POSSIBLE);
    }

    private static void loadRefuses() {
        FreightSplits x = new FreightSplits();
        x.vehicle(20, 30);
        x.vehicle(20, 30);
        x.consign(1, 5, 5, 0, 99, 1);
        x.consign(1, 5, 5, 0, 99, 1);
        int[][] wrong = {{-1, 0}, {2, 0}, {0, -1}, {0, 2}, {16, 4}, {0, Integer.MAX_VALUE},
            {Integer.MIN_VALUE, 0}};
        for (int[] w : wrong) {
            Expect.due("wrong load", x.load(w[0], w[1]), Expect.INVALID);
        }
        x.load(0, 0);
        Expect.due("loaded elsewhere", x.load(0, 1), Expect.NOT_POSSIBLE);
        x.depart(0);
        Expect.due("vehicle under way", x.load(1, 0), Expect.NOT_POSSIBLE);
        Expect.due("freight under way", x.load(0, 1), Expect.NOT_POSSIBLE);
        x.pass(3);
        Expect.due("vehicle on the way back", x.load(1, 0), Expect.NOT_POSSIBLE);
        Expect.due("delivered", x.load(0, 1), Expect.NOT_POSSIBLE);
        x.pass(3);
        Expect.due("vehicle is back", x.load(1, 0), 15);
    }

    private static void unloadGivesTheVehicle() {
        FreightSplits x = new FreightSplits();
        x.vehicle(20, 30);
        x.vehicle(20, 30);
        x.consign(1, 5, 5, 0, 99, 1);
        Expect.due("not loaded", x.unload(0), Expect.NOT_POSSIBLE);
        Expect.due("none", x.unload(1), Expect.INVALID);
        Expect.due("none", x.unload(-1), Expect.INVALID);
        x.load(0, 1);
        Expect.due("unload", x.unload(0), 1);
        Expect.due("its load", x.vehicleOf(1, 5), 0);
        Expect.due("again", x.unload(0), Expect.NOT_POSSIBLE);
        x.load(0, 0);
        x.depart(0);
        Expect.due("under way", x.unload(0), Expect.NOT_POSSIBLE);
        x.pass(3);
        Expect.due("delivered", x.unload(0), Expect.NOT_POSSIBLE);
    }

    private static void fillByEachRule() {
        FreightSplits x = new FreightSplits();
        x.consign(1, 10, 1, 0, 30, 50);
        x.consign(1, 10, 1, 0, 20, 50);
        x.consign(1, 20, 1, 0, 20, 80);
        x.consign(1, 6, 1, 0, 40, 33);
        x.consign(2, 1, 1, 0, 1, 99);
        x.vehicle(20, 200);
        Expect.due("rule 0: 1, not 2, 0", x.wouldFill(0, 1, 0), 0b0011);
        Expect.due("rule 1: 2", x.wouldFill(0, 1, 1), 0b0100);
        Expect.due("rule 2: 3, 0", x.wouldFill(0, 1, 2), 0b1001);
        Expect.due("fill", x.fill(0, 1, 2), 2);
        Expect.due("its load", x.vehicleOf(0, 5), 0b1001);
        x.vehicle(10, 10);
        Expect.due("of what is left", x.wouldFill(1, 1, 1), 0b0010);
        Expect.due("for another place", x.fill(1, 2, 0), 1);
        Expect.due("its load", x.vehicleOf(1, 5), 0b10000);
        Expect.due("in it", x.consignmentOf(4, 7), 1);
        sameRanksTakeTheLowerNumber();
        theBoundOfWeightBinds();
    }

    private static void sameRanksTakeTheLowerNumber() {
        for (int rule = 0; rule <= 2; rule++) {
            FreightSplits x = new FreightSplits();
            x.vehicle(8, 200);
            x.consign(1, 8, 1, 0, 30, 40);
            x.consign(1, 8, 1, 0, 30, 40);
            Expect.due("rule " + rule, x.wouldFill(0, 1, rule), 1);
        }
        FreightSplits x = new FreightSplits();
        x.vehicle(9, 200);
        x.consign(1, 6, 1, 0, 30, 4);
        x.consign(1, 9, 1, 0, 30, 6);
        Expect.due("6 for 9 is as 4 for 6", x.wouldFill(0, 1, 2), 1);
        Expect.due("6 are more than 4", x.wouldFill(0, 1, 1), 2);
    }

    private static void theBoundOfWeightBinds() {
        FreightSplits x = new FreightSplits();
        x.vehicle(200, 20);
        x.consign(4, 1, 15, 0, 10, 1);
        x.consign(4, 1, 6, 0, 20, 1);
        x.consign(4, 1, 5, 0, 30, 1);
        Expect.due("one that fits later on", x.fill(0, 4, 0), 2);
        Expect.due("its load", x.vehicleOf(0, 5), 0b101);
    }

    private static void fillBesidesWhatIsIn() {
        FreightSplits x = new FreightSplits();
        x.vehicle(20, 20);
        for (int i = 0; i < 5; i++) {
            x.consign(i == 4 ? 2 : 1, 6, 6, 0, 10 + i, 1);
        }
        x.load(3, 0);
        Expect.due("would", x.wouldFill(0, 1, 0), 0b0011);
        Expect.due("fill", x.fill(0, 1, 0), 2);
        Expect.due("its load", x.vehicleOf(0, 5), 0b1011);
        Expect.due("again", x.fill(0, 1, 0), 0);
        Expect.due("for another place", x.fill(0, 2, 0), 0);
        Expect.due("its load", x.vehicleOf(0, 5), 0b1011);
        Expect.due("they are changes", x.count(11), 4);
        x.undo();
        x.undo();
        Expect.due("its load", x.vehicleOf(0, 5), 0b1011);
        x.undo();
        Expect.due("its load", x.vehicleOf(0, 5), 0b1000);
    }

    private static void fillRefuses() {
        FreightSplits x = new FreightSplits();
        x.vehicle(20, 20);
        x.consign(1, 5, 5, 0, 99, 1);
        int[][] wrong = {{-1, 1, 0}, {1, 1, 0}, {0, 0, 0}, {0, 5, 0}, {0, 1, -1}, {0, 1, 3},
            {4, 1, 0}, {0, Integer.MIN_VALUE, 0}, {0, 1, Integer.MAX_VALUE}};
        for (int[] w : wrong) {
            Expect.due("wrong fill", x.fill(w[0], w[1], w[2]), Expect.INVALID);
            Expect.due("wrong wouldFill", x.wouldFill(w[0], w[1], w[2]), Expect.INVALID);
        }
        x.fill(0, 1, 0);
        x.depart(0);
        Expect.due("on the way", x.fill(0, 1, 0), Expect.NOT_POSSIBLE);
        Expect.due("on the way", x.wouldFill(0, 1, 0), Expect.NOT_POSSIBLE);
        Expect.due("on the way, wrong", x.fill(0, 5, 0), Expect.INVALID);
        x.pass(4);
        Expect.due("on the way back", x.fill(0, 1, 0), Expect.NOT_POSSIBLE);
        x.pass(2);
        Expect.due("back", x.fill(0, 1, 0), 0);
    }

    private static void departTellsTheHour() {
        FreightSplits x = new FreightSplits();
        x.vehicle(20, 20);
        x.vehicle(20, 20);
        Expect.due("none", x.depart(2), Expect.INVALID);
        Expect.due("none", x.depart(-1), Expect.INVALID);
        Expect.due("no load", x.depart(0), Expect.NOT_POSSIBLE);
        x.consign(4, 5, 5, 0, 99, 1);
        x.consign(2, 5, 5, 0, 99, 1);
        x.load(0, 0);
        x.load(1, 1);
        x.pass(2);
        Expect.due("depart(0)", x.depart(0), 14);
        x.set(0, 5);
        Expect.due("depart(1)", x.depart(1), 12);
        Expect.due("again", x.depart(1), Expect.NOT_POSSIBLE);
        Expect.due("pass(9)", x.pass(9), 0);
        Expect.due("pass(1)", x.pass(1), 1);
        Expect.due("on the way back", x.depart(1), Expect.NOT_POSSIBLE);
        Expect.due("pass(2)", x.pass(2), 1);
        Expect.due("back at", x.vehicleOf(0, 7), 26);
        Expect.due("back at", x.vehicleOf(1, 7), 22);
    }

    private static void vehicleOfTellsTheTrip() {
        FreightSplits x = new FreightSplits();
        x.vehicle(20, 30);
        x.consign(2, 5, 7, 0, 99, 1);
        x.consign(2, 6, 8, 0, 99, 1);
        x.load(0, 0);
        x.load(1, 0);
        x.offer(2, 20, 30, 44, 50);
        isVehicle(x, 20, 30, 0, 11, 15, 3, 2, Expect.NOT_FOUND, 0, 0);
        x.depart(0);
        isVehicle(x, 20, 30, 1, 11, 15, 3, 2, 6, 0, 0);
        x.pass(5);
        isVehicle(x, 20, 30, 1, 11, 15, 3, 2, 6, 0, 0);
        x.pass(1);
        isVehicle(x, 20, 30, 2, 0, 0, 0, 2, 12, 44, 0);
        x.pass(5);
        isVehicle(x, 20, 30, 2, 0, 0, 0, 2, 12, 44, 0);
        x.pass(1);
        isVehicle(x, 20, 30, 0, 0, 0, 0, Expect.NOT_FOUND, Expect.NOT_FOUND, 0, 1);
        x.consign(1, 1, 1, 0, 99, 1);
        x.load(2, 0);
        x.depart(0);
        isVehicle(x, 20, 30, 1, 1, 1, 4, 1, 15, 0, 1);
        x.pass(6);
        isVehicle(x, 20, 30, 0, 0, 0, 0, Expect.NOT_FOUND, Expect.NOT_FOUND, 0, 2);
        Expect.due("count(7)", x.count(7), 44);
    }

    private static void isVehicle(FreightSplits x, int... due) {
        for (int what = 0; what < due.length; what++) {
            Expect.due("vehicleOf(0, " + what + ") at " + x.count(2), x.vehicleOf(0, what), due[what]);
        }
    }

    private static void vehicleOfRefuses() {
        FreightSplits x = new FreightSplits();
        x.vehicle(20, 30);
        int[][] wrong = {{-1, 0}, {1, 0}, {4, 0}, {0, -1}, {0, 10}, {1, 6}, {1, 7},
            {Integer.MAX_VALUE, 0}, {0, Integer.MIN_VALUE}};
        for (int[] w : wrong) {
            Expect.due("wrong vehicleOf", x.vehicleOf(w[0], w[1]), Expect.INVALID);
        }
    }
}
