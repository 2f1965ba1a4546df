/** Promises 17 to 20: wouldFill, wouldEarn, hopeless, undo. */
public final class PlansTest {
    public static void main(String[] args) {
        wouldFillChangesNothing();
        wouldEarnTellsTheTrip();
        wouldEarnLeavesOffersAlone();
        wouldEarnRefuses();
        hopelessLooksAtTheWay();
        undoRestores();
        undoKeepsFourStates();
        eachChangeIsUndone();
        undoRestoresTripsAndStays();
        undoLeavesTheText();
        errorsAreNoChanges();
        Expect.finish();
    }

    private static void wouldFillChangesNothing() {
        FreightSplits x = new FreightSplits();
        x.vehicle(20, 20);
        x.consign(1, 8, 8, 0, 99, 1);
        x.consign(1, 8, 8, 0, 50, 1);
        x.load(0, 0);
        Expect.due("besides what is in it", x.wouldFill(0, 1, 0), 0b10);
        Expect.due("for another place", x.wouldFill(0, 2, 0), 0);
        Expect.due("its load", x.vehicleOf(0, 5), 0b01);
        Expect.due("in none", x.consignmentOf(1, 7), Expect.NOT_FOUND);
        Expect.due("count(11)", x.count(11), 4);
        Expect.due("fill", x.fill(0, 1, 0), 1);
    }

    private static void wouldEarnTellsTheTrip() {
        FreightSplits x = new FreightSplits();
        x.vehicle(30, 30);
        x.consign(2, 8, 8, 0, 6, 100);
        x.consign(2, 8, 8, 0, 5, 70);
        x.consign(2, 8, 8, 10, 20, 5);
        x.load(0, 0);
        Expect.due("one in time", x.wouldEarn(0), 4000100);
        x.load(1, 0);
        Expect.due("one too late", x.wouldEarn(0), 4000100);
        x.load(2, 0);
        Expect.due("one 4 hours early", x.wouldEarn(0), 4000101);
        x.set(2, 20);
        Expect.due("at 20 coins an hour", x.wouldEarn(0), 4000025);
        x.unload(0);
        Expect.due("below nought", x.wouldEarn(0), 3999925);
        x.pass(1);
        x.load(0, 0);
        Expect.due("an hour later", x.wouldEarn(0), 3999945);
        x.set(0, 5);
        Expect.due("a longer way", x.wouldEarn(0), 4000005);
    }

    private static void wouldEarnLeavesOffersAlone() {
        FreightSplits x = new FreightSplits();
        x.vehicle(20, 20);
        x.vehicle(20, 20);
        x.consign(1, 8, 8, 0, 90, 100);
        x.consign(1, 8, 8, 0, 90, 100);
        x.load(0, 0);
        x.load(1, 1);
        x.offer(1, 12, 1, 40, 2);
        x.offer(1, 12, 1, 20, 3);
        x.offer(1, 12, 1, 20, 99);
        x.offer(2, 1, 1, 500, 99);
        x.offer(1, 8, 20, 10, 99);
        x.offer(1, 8, 19, 7, 99);
        x.depart(0);
        Expect.due("as if no other came there", x.wouldEarn(1), 4000127);
        Expect.due("count(10)", x.count(10), 6);
        x.pass(1);
        Expect.due("one holds no more", x.wouldEarn(1), 4000127);
        x.pass(2);
        Expect.due("vehicle 0 took two", x.vehicleOf(0, 8), 27);
        Expect.due("of what is left", x.wouldEarn(1), 4000120);
        Expect.due("nothing has changed", x.count(6), 100);
        Expect.due("nothing has changed", x.count(2), 3);
        Expect.due("nothing has changed", x.consignmentOf(1, 6), 1);
        x.set(2, 2);
        x.consign(1, 1, 1, 50, 90, 30);
        x.pass(3);
        x.load(2, 0);
        Expect.due("41 hours early, and the offer", x.wouldEarn(0), 4000000 + 30 - 2 * 41 + 20);
        x.depart(0);
        x.pass(6);
        x.consign(1, 1, 1, 20, 90, 30);
        x.load(3, 0);
        Expect.due("what was paid ahead does not count, the last offer does", x.wouldEarn(0), 4000000 + 30 - 2 * 5 + 10);
    }

    private static void wouldEarnRefuses() {
        FreightSplits x = new FreightSplits();
        x.vehicle(20, 20);
        Expect.due("none", x.wouldEarn(1), Expect.INVALID);
        Expect.due("none", x.wouldEarn(-1), Expect.INVALID);
        Expect.due("none", x.wouldEarn(Integer.MAX_VALUE), Expect.INVALID);
        Expect.due("no load", x.wouldEarn(0), Expect.NOT_POSSIBLE);
        x.consign(1, 8, 8, 0, 90, 100);
        x.load(0, 0);
        x.depart(0);
        Expect.due("on the way", x.wouldEarn(0), Expect.NOT_POSSIBLE);
        x.pass(3);
        Expect.due("on the way back", x.wouldEarn(0), Expect.NOT_POSSIBLE);
        x.pass(3);
        Expect.due("back without a load", x.wouldEarn(0), Expect.NOT_POSSIBLE);
    }

    private static void hopelessLooksAtTheWay() {
        FreightSplits x = new FreightSplits();
        x.vehicle(50, 50);
        x.consign(1, 5, 5, 0, 3, 1);
        x.consign(1, 5, 5, 0, 2, 1);
        x.consign(2, 5, 5, 0, 5, 1);
        x.consign(4, 5, 5, 0, 12, 1);
        Expect.due("hopeless()", x.hopeless(), 0b0110);
        x.load(1, 0);
        Expect.due("loaded ones too", x.hopeless(), 0b0110);
        x.pass(1);
        Expect.due("an hour later", x.hopeless(), 0b1111);
        x.set(0, 1);
        Expect.due("a shorter way", x.hopeless(), 0);
        x.set(0, 3);
        x.depart(0);
        Expect.due("not those under way", x.hopeless(), 0b1101);
        x.split(3, 1, 1);
        Expect.due("parts too", x.hopeless(), 0b11101);
        x.join(3, 4);
        Expect.due("not those that are gone", x.hopeless(), 0b1101);
        x.pass(9);
        Expect.due("not those that are lost", x.hopeless(), 0b1101);
    }

    private static void undoRestores() {
        FreightSplits x = new FreightSplits();
        x.consign(1, 10, 10, 0, 20, 50);
        x.vehicle(20, 20);
        x.load(0, 0);
        x.depart(0);
        x.offer(1, 5, 5, 33, 99);
        x.set(1, 0);
        x.consign(2, 15, 10, 9, 20, 50);
        x.pass(6);
        Expect.due("count(8)", x.count(8), 12);
        Expect.due("undo pass", x.undo(), 3);
        int[] due = {2, 1, 0, 2, 0, 0, 0, 0, 0, 0, 1, 3};
        for (int what = 0; what < due.length; what++) {
            Expect.due("count(" + what + ")", x.count(what), due[what]);
        }
        Expect.due("consignmentOf(0, 6)", x.consignmentOf(0, 6), 2);
        Expect.due("consignmentOf(0, 8)", x.consignmentOf(0, 8), Expect.NOT_FOUND);
        Expect.due("vehicleOf(0, 2)", x.vehicleOf(0, 2), 1);
        Expect.due("vehicleOf(0, 9)", x.vehicleOf(0, 9), 0);
        Expect.due("offerOf(0, 3)", x.offerOf(0, 3), 33);
        Expect.due("undo consign", x.undo(), 2);
        Expect.due("count(0)", x.count(0), 1);
        Expect.due("consignmentOf(1, 0)", x.consignmentOf(1, 0), Expect.INVALID);
        Expect.due("undo set", x.undo(), 1);
        Expect.due("count(21)", x.count(21), 8);
        Expect.due("undo offer", x.undo(), 0);
        Expect.due("count(10)", x.count(10), 0);
        Expect.due("undo nothing", x.undo(), Expect.NOT_POSSIBLE);
        Expect.due("still under way", x.vehicleOf(0, 7), 3);
        Expect.due("the number is used again", x.consign(3, 1, 1, 1, 1, 1), 1);
    }

    private static void undoKeepsFourStates() {
        FreightSplits x = new FreightSplits();
        for (int i = 1; i <= 13; i++) {
            x.pass(i);
            Expect.due("count(11)", x.count(11), Math.min(i, 4));
        }
        for (int left = 3; left >= 0; left--) {
            Expect.due("undo", x.undo(), left);
            int hours = 9 + left;
            Expect.due("count(2)", x.count(2), hours * (hours + 1) / 2);
        }
        Expect.due("undo", x.undo(), Expect.NOT_POSSIBLE);
        x.pass(1);
        x.pass(2);
        Expect.due("undo", x.undo(), 1);
        x.pass(5);
        Expect.due("undo", x.undo(), 1);
        Expect.due("undo", x.undo(), 0);
        Expect.due("count(2)", x.count(2), 45);
    }

    private static void eachChangeIsUndone() {
        for (int change = 0; change < 12; change++) {
            FreightSplits x = new FreightSplits();
            x.vehicle(50, 50);
            x.vehicle(50, 50);
            x.consign(1, 20, 20, 0, 90, 7);
            x.split(0, 5, 5);
            x.split(0, 5, 5);
            x.load(0, 0);
            int[] before = tell(x);
            makeChange(x, change);
            boolean differs = false;
            int[] after = tell(x);
            for (int i = 0; i < before.length; i++) {
                differs |= before[i] != after[i];
            }
            Expect.holds("change " + change + " changes something", differs || change == 11);
            Expect.due("undo of change " + change, x.undo(), 3);
            after = tell(x);
            for (int i = 0; i < before.length; i++) {
                Expect.due("answer " + i + " after undo of change " + change, after[i], before[i]);
            }
        }
    }

    private static void makeChange(FreightSplits x, int change) {
        switch (change) {
            case 0 -> x.consign(2, 1, 1, 1, 1, 1);
            case 1 -> x.split(1, 2, 2);
            case 2 -> x.join(1, 2);
            case 3 -> x.vehicle(9, 9);
            case 4 -> x.load(1, 1);
            case 5 -> x.unload(0);
            case 6 -> x.fill(1, 1, 0);
            case 7 -> x.depart(0);
            case 8 -> x.offer(1, 1, 1, 1, 1);
            case 9 -> x.pass(11);
            case 10 -> x.set(2, 7);
            default -> x.play();
        }
        Expect.due("count(11) after change " + change, x.count(11), 4);
    }

    /** What there is, but for the number of states. */
    private static int[] tell(FreightSplits x) {
        int[] told = new int[200];
        int next = 0;
        for (int what = 0; what <= 22; what++) {
            told[next++] = what == 11 ? 0 : x.count(what);
        }
        for (int i = 0; i < 5; i++) {
            for (int what = 0; what <= 10; what++) {
                told[next++] = x.consignmentOf(i, what);
            }
        }
        for (int i = 0; i < 3; i++) {
            for (int what = 0; what <= 9; what++) {
                told[next++] = x.vehicleOf(i, what);
            }
        }
        for (int what = 0; what <= 4; what++) {
            told[next++] = x.offerOf(0, what);
        }
        return told;
    }

    private static void undoRestoresTripsAndStays() {
        FreightSplits x = new FreightSplits();
        x.pass(2);
        x.consign(2, 10, 10, 0, 90, 7);
        x.vehicle(20, 20);
        x.load(0, 0);
        x.pass(3);
        x.depart(0);
        x.pass(12);
        x.consign(1, 10, 10, 0, 90, 7);
        x.load(1, 0);
        x.set(0, 9);
        x.depart(0);
        Expect.due("on the way", x.vehicleOf(0, 7), 26);
        for (int left = 3; left >= 0; left--) {
            Expect.due("undo", x.undo(), left);
        }
        Expect.due("at the hour", x.count(2), 17);
        x.undo();
        Expect.due("hours in the hall", x.consignmentOf(0, 10), 3);
        for (int i = 0; i < 3; i++) {
            x.pass(1);
        }
        x.undo();
        Expect.due("hours in the hall", x.consignmentOf(0, 10), 3);
        Expect.due("trips", x.vehicleOf(0, 9), 1);
        undoOnTheWay();
    }

    private static void undoOnTheWay() {
        FreightSplits x = new FreightSplits();
        x.vehicle(20, 20);
        x.consign(2, 10, 10, 0, 90, 7);
        x.consign(1, 10, 10, 0, 90, 7);
        x.load(0, 0);
        x.pass(4);
        x.depart(0);
        x.pass(12);
        x.load(1, 0);
        x.depart(0);
        Expect.due("undo", x.undo(), 3);
        Expect.due("undo", x.undo(), 2);
        Expect.due("undo to the way there", x.undo(), 1);
        Expect.due("its place", x.vehicleOf(0, 6), 2);
        Expect.due("left after", x.consignmentOf(0, 10), 4);
        Expect.due("pass(6)", x.pass(6), 1);
        Expect.due("back at", x.vehicleOf(0, 7), 16);
        Expect.due("its place", x.vehicleOf(0, 6), 2);
    }

    private static void undoLeavesTheText() {
        FreightSplits x = new FreightSplits();
        x.pass(1);
        Expect.typed(x, "pass 5;");
        Expect.due("count(11)", x.count(11), 1);
        x.undo();
        Expect.due("count(12)", x.count(12), 7);
        Expect.due("play()", x.play(), 1);
        x.clearText();
        x.undo();
        Expect.due("count(12)", x.count(12), 0);
        Expect.due("count(2)", x.count(2), 0);
    }

    private static void errorsAreNoChanges() {
        FreightSplits x = new FreightSplits();
        x.consign(1, 10, 10, 0, 20, 50);
        x.consign(0, 10, 10, 0, 20, 50);
        x.split(0, 10, 10);
        x.join(0, 0);
        x.vehicle(0, 0);
        x.load(0, 0);
        x.unload(0);
        x.fill(0, 1, 0);
        x.depart(0);
        x.offer(0, 1, 1, 1, 1);
        x.pass(0);
        x.set(0, 0);
        x.type('x');
        x.play();
        x.clearText();
        x.wouldFill(0, 1, 0);
        x.wouldEarn(0);
        x.hopeless();
        Expect.due("count(11)", x.count(11), 1);
        Expect.due("undo", x.undo(), 0);
        Expect.due("count(0)", x.count(0), 0);
    }
}
