/** All rows in use: 16 consignments, 4 vehicles, 10 offers, 80 characters; no call may throw. */
public final class FullHallTest {
    public static void main(String[] args) {
        allRowsTravel();
        allRowsJoin();
        textsThatEndAnywhereAtTheLastCharacter();
        Expect.finish();
    }

    private static FreightSplits full() {
        FreightSplits x = new FreightSplits();
        for (int i = 0; i < 16; i++) {
            Expect.due("consign", x.consign(1 + i / 4, 10, 5, 0, 20 + i, i), i);
        }
        for (int i = 0; i < 4; i++) {
            Expect.due("vehicle", x.vehicle(40, 20), i);
        }
        for (int i = 0; i < 10; i++) {
            Expect.due("offer", x.offer(1 + i % 4, 20, 10, 100 + i, 99), i + 1);
        }
        return x;
    }

    private static void allRowsTravel() {
        FreightSplits x = full();
        Expect.due("count(3)", x.count(3), 0xffff);
        Expect.due("hopeless()", x.hopeless(), 0);
        for (int i = 0; i < 4; i++) {
            Expect.due("wouldFill", x.wouldFill(i, i + 1, i % 3), 0xf << 4 * i);
            Expect.due("fill", x.fill(i, i + 1, i % 3), 4);
            Expect.due("load", x.vehicleOf(i, 5), 0xf << 4 * i);
            Expect.due("room and weight", x.vehicleOf(i, 3) + x.vehicleOf(i, 4), 60);
        }
        Expect.due("its whole", x.consignmentOf(15, 9), 0x8000);
        // The two dearest of each place: 108 and 104, 109 and 105, 106 and 102, 107 and 103.
        int[] prices = {212, 214, 208, 210};
        for (int i = 0; i < 4; i++) {
            Expect.due("wouldEarn", x.wouldEarn(i), 4000000 + 16 * i + 6 + prices[i]);
            Expect.due("depart", x.depart(i), 3 * (i + 1));
        }
        Expect.due("pass(12)", x.pass(12), 16);
        Expect.due("count(10)", x.count(10), 2);
        Expect.due("pass(12)", x.pass(12), 0);
        int[] due = {16, 4, 24, 0, 16, 0, 120, 844, 0, 0, 2, 4, 0};
        for (int what = 0; what < due.length; what++) {
            Expect.due("count(" + what + ")", x.count(what), due[what]);
        }
        Expect.due("undo", x.undo(), 3);
        Expect.due("undo", x.undo(), 2);
        Expect.due("count(5)", x.count(5), 0);
        Expect.due("vehicleOf(3, 7)", x.vehicleOf(3, 7), 12);
    }

    private static void allRowsJoin() {
        FreightSplits x = new FreightSplits();
        x.consign(1, 99, 99, 0, 99, 999);
        for (int i = 1; i < 16; i++) {
            Expect.due("split", x.split(i - 1, 99 - 6 * i, 99 - 6 * i), i);
        }
        Expect.due("all parts", x.consignmentOf(15, 9), 0xffff);
        int worths = 0;
        for (int i = 0; i < 16; i++) {
            worths += x.consignmentOf(i, 5);
        }
        Expect.due("worths", worths, 999);
        x.pass(9);
        Expect.due("15 of 6, one of 9", x.count(8), 16);
        for (int i = 15; i > 0; i--) {
            Expect.due("join", x.join(i, i - 1), i - 1);
        }
        Expect.due("whole again", x.consignmentOf(0, 9), 1);
        Expect.due("its size", x.consignmentOf(0, 1), 99);
        Expect.due("its worth", x.consignmentOf(0, 5), 999);
        Expect.due("no number is left", x.consign(1, 1, 1, 1, 1, 1), Expect.LIMIT);
        Expect.due("the last one is gone", x.consignmentOf(15, 9), Expect.INVALID);
    }

    private static void textsThatEndAnywhereAtTheLastCharacter() {
        String tail = "offer 123 4 5 6 78;";
        for (int end = 0; end < tail.length(); end++) {
            FreightSplits x = new FreightSplits();
            StringBuilder text = new StringBuilder();
            while (text.length() + 7 + end <= 80) {
                text.append("pass 1;");
            }
            // Longer numbers fill what is left up to the 80th character.
            int left = 80 - end - text.length();
            for (int i = 0; i < left; i++) {
                text.insert(i / 2 * (7 + 2) + 5, '0');
            }
            int position = text.length();
            text.append(tail, 0, end);
            if (end == 0) {
                Expect.noFault(x, text.toString());
            } else {
                Expect.fault(x, text.toString(), position, 1);
            }
            Expect.due("count(12)", x.count(12), 80);
        }
    }
}
