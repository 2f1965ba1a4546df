/** Promises 21 to 24: type, clearText, fault, play. */
public final class TextsTest {
    public static void main(String[] args) {
        typeTakesItsRange();
        clearTextTellsTheLength();
        faultRefuses();
        faultsOfForm();
        formsThatAreNone();
        faultsOfArguments();
        faultsOfState();
        theFirstFaultCounts();
        faultChangesNothing();
        playDoesAllCommands();
        playIsOneChange();
        aWholeTextOfEightyCharacters();
        playLooksAtSinceWhen();
        Expect.finish();
    }

    private static FreightSplits ready() {
        FreightSplits x = new FreightSplits();
        x.vehicle(20, 20);
        x.vehicle(10, 10);
        x.consign(1, 8, 8, 0, 90, 100);
        x.consign(1, 9, 8, 0, 90, 100);
        return x;
    }

    private static void typeTakesItsRange() {
        FreightSplits x = new FreightSplits();
        int[] wrong = {31, 127, 0, -1, 65536 + 65, Integer.MAX_VALUE, Integer.MIN_VALUE};
        for (int w : wrong) {
            Expect.due("type(" + w + ")", x.type(w), Expect.INVALID);
        }
        Expect.due("type(32)", x.type(32), 1);
        Expect.due("type(126)", x.type(126), 2);
        for (int i = 3; i <= 80; i++) {
            Expect.due("type", x.type('a'), i);
        }
        Expect.due("type an 81st", x.type('a'), Expect.LIMIT);
        Expect.due("type a wrong 81st", x.type(31), Expect.INVALID);
        Expect.due("count(12)", x.count(12), 80);
        Expect.due("fault(0)", x.fault(0), 0);
    }

    private static void clearTextTellsTheLength() {
        FreightSplits x = new FreightSplits();
        Expect.due("clearText()", x.clearText(), 0);
        Expect.typed(x, "abc");
        Expect.due("clearText()", x.clearText(), 3);
        Expect.due("count(12)", x.count(12), 0);
        Expect.due("clearText()", x.clearText(), 0);
        Expect.due("count(11)", x.count(11), 0);
    }

    private static void faultRefuses() {
        FreightSplits x = new FreightSplits();
        int[] wrong = {-1, 2, Integer.MAX_VALUE, Integer.MIN_VALUE};
        for (int w : wrong) {
            Expect.due("fault(" + w + ")", x.fault(w), Expect.INVALID);
        }
        Expect.due("no text", x.fault(0), Expect.NOT_FOUND);
        Expect.due("no text", x.fault(1), Expect.NOT_FOUND);
        x.type('x');
        Expect.due("fault(2)", x.fault(2), Expect.INVALID);
    }

    private static void faultsOfForm() {
        FreightSplits x = ready();
        String[] wrong = {
            ";", " ", "x", "pass 1", "pass 1 ;", "pass  1;", " pass 1;", "pass 1; ", "pass;", "pass ;",
            "pass 1 2;", "pass 0001;", "pass -1;", "pass +1;", "pass a;", "pass 1a;", "Pass 1;",
            "pas 1;", "passs 1;", "pass1;", "go;", "go 0 0;", "load 0;", "load 0 0 0;", "load 0,0;",
            "fill 0 1;", "fill 0 1 0 0;", "split 0 1;", "split 0 1 1 1;", "join 0;", "join 0 1 2;",
            "offer 1 1 1 1;", "offer 1 1 1 1 1 1;", "depart 0;", "unload 0;", "consign 1 1 1 1 1 1;",
            "vehicle 1 1;", "set 0 1;", "load 0 0", "g", "lo", "offer", "pass 1234;", "pass 1:", "pass /;"};
        for (String w : wrong) {
            int position = w.equals("pass 1; ") ? 7 : 0;
            Expect.fault(x, w, position, 1);
        }
    }

    private static void formsThatAreNone() {
        FreightSplits x = ready();
        String[] right = {
            "", "pass 1;", "pass 01;", "pass 001;", "load 0 0;", "load 000 001;", "fill 0 1 2;",
            "load 1 0;go 0;", "split 0 1 1;", "split 0 1 1;join 0 2;", "split 1 08 007;join 002 01;",
            "offer 1 1 1 1 1;", "offer 4 99 99 999 99;", "pass 99;pass 99;"};
        for (String r : right) {
            Expect.noFault(x, r);
        }
    }

    private static void faultsOfArguments() {
        FreightSplits x = ready();
        String[] wrong = {
            "pass 0;", "pass 100;", "pass 999;", "load 2 0;", "load 0 2;", "fill 2 1 0;", "fill 0 0 0;",
            "fill 0 5 0;", "fill 0 1 3;", "go 2;", "split 2 1 1;", "split 0 8 1;", "split 0 1 0;",
            "join 0 0;", "join 0 2;", "offer 0 1 1 1 1;", "offer 1 100 1 1 1;", "offer 1 1 0 1 1;",
            "offer 1 1 1 1 100;"};
        for (String w : wrong) {
            Expect.fault(x, w, 0, 2);
        }
    }

    private static void faultsOfState() {
        FreightSplits x = ready();
        Expect.fault(x, "go 0;", 0, 3);
        Expect.fault(x, "join 0 1;", 0, 3);
        Expect.fault(x, "load 0 0;load 0 0;", 9, 3);
        Expect.fault(x, "load 0 1;load 1 1;", 9, 3);
        Expect.fault(x, "load 0 0;split 0 1 1;", 9, 3);
        Expect.fault(x, "load 0 0;go 0;go 0;", 14, 3);
        Expect.fault(x, "load 0 0;go 0;fill 0 1 0;", 14, 3);
        for (int i = 0; i < 10; i++) {
            x.offer(1, 1, 1, 1, 99);
        }
        Expect.fault(x, "offer 1 1 1 1 1;", 0, 3);
        Expect.noFault(x, "pass 99;pass 1;offer 1 1 1 1 1;");
        for (int i = 0; i < 90; i++) {
            x.pass(99);
        }
        Expect.fault(x, "pass 90;pass 1;", 8, 3);
        for (int i = 2; i < 16; i++) {
            x.consign(1, 8, 8, 0, 90, 100);
        }
        Expect.fault(x, "split 0 1 1;", 0, 3);
    }

    private static void theFirstFaultCounts() {
        FreightSplits x = ready();
        Expect.fault(x, "pass 0;pass", 0, 2);
        Expect.fault(x, "pass 1;pass", 7, 1);
        Expect.fault(x, "go 0;pass 0;x;", 0, 3);
        Expect.fault(x, "pass 1;;", 7, 1);
        Expect.fault(x, "fill 0 1 0;go 0;pass 6;go 0;pass 0;", 23, 3);
        Expect.fault(x, "split 0 2 2;join 0 2;join 0 2;", 21, 2);
        x.clearText();
        Expect.due("an empty text has none", x.fault(0), Expect.NOT_FOUND);
        Expect.due("an empty text plays", x.play(), 0);
    }

    private static void faultChangesNothing() {
        FreightSplits x = ready();
        Expect.fault(x, "load 0 0;go 0;pass 9;go 0;", 21, 3);
        Expect.due("count(2)", x.count(2), 0);
        Expect.due("count(3)", x.count(3), 3);
        Expect.due("vehicleOf(0, 2)", x.vehicleOf(0, 2), 0);
        Expect.due("count(11)", x.count(11), 4);
        Expect.due("count(12)", x.count(12), 26);
        Expect.noFault(x, "load 0 0;go 0;pass 9;");
        Expect.due("count(2)", x.count(2), 0);
    }

    private static void playDoesAllCommands() {
        FreightSplits x = ready();
        Expect.noFault(x, "split 1 4 3;offer 1 20 20 77 9;load 02 1;fill 0 1 1;go 0;go 1;pass 3;");
        Expect.due("play()", x.play(), 7);
        Expect.due("the text stays", x.count(12), 69);
        Expect.due("count(0)", x.count(0), 3);
        Expect.due("part's vehicle", x.consignmentOf(2, 7), 1);
        Expect.due("rest's vehicle", x.consignmentOf(1, 7), 0);
        Expect.due("part's size", x.consignmentOf(2, 1), 4);
        Expect.due("part's weight", x.consignmentOf(2, 2), 3);
        Expect.due("count(4)", x.count(4), 3);
        Expect.due("count(6)", x.count(6), 200);
        Expect.due("vehicleOf(0, 8)", x.vehicleOf(0, 8), 77);
        Expect.due("count(2)", x.count(2), 3);
        Expect.due("count(10)", x.count(10), 0);
        Expect.due("the text does not play now", x.play(), Expect.NOT_POSSIBLE);
        Expect.due("fault(0)", x.fault(0), 0);
        x.clearText();
        FreightSplits y = ready();
        Expect.noFault(y, "split 0 3 4;join 0 2;offer 2 3 4 5 6;");
        Expect.due("play()", y.play(), 3);
        int[] offer = {2, 3, 4, 5, 6};
        for (int what = 0; what <= 4; what++) {
            Expect.due("offerOf(0, " + what + ")", y.offerOf(0, what), offer[what]);
        }
        Expect.due("joined again", y.consignmentOf(0, 1), 8);
        Expect.due("gone", y.consignmentOf(2, 1), Expect.INVALID);
    }

    private static void playIsOneChange() {
        FreightSplits x = new FreightSplits();
        Expect.due("play() of nothing", x.play(), 0);
        Expect.due("count(11)", x.count(11), 1);
        Expect.noFault(x, "pass 1;pass 2;pass 3;");
        Expect.due("play()", x.play(), 3);
        Expect.due("play() again", x.play(), 3);
        Expect.due("count(11)", x.count(11), 3);
        Expect.due("count(2)", x.count(2), 12);
        Expect.due("undo()", x.undo(), 2);
        Expect.due("count(2)", x.count(2), 6);
        Expect.due("undo()", x.undo(), 1);
        Expect.due("count(2)", x.count(2), 0);
        Expect.due("undo()", x.undo(), 0);
        Expect.due("count(12)", x.count(12), 21);
    }

    private static void aWholeTextOfEightyCharacters() {
        FreightSplits x = new FreightSplits();
        StringBuilder text = new StringBuilder();
        for (int i = 0; i < 11; i++) {
            text.append("pass 9;");
        }
        Expect.fault(x, text + "pas", 77, 1);
        text.setLength(70);
        Expect.noFault(x, text + "pass 1;");
        Expect.due("play()", x.play(), 11);
        Expect.due("count(2)", x.count(2), 91);
        text.setLength(63);
        Expect.noFault(x, text + "pass 01;pass 001;");
        Expect.due("count(12)", x.count(12), 80);
        Expect.due("play()", x.play(), 11);
        Expect.due("count(2)", x.count(2), 174);
    }

    private static void playLooksAtSinceWhen() {
        FreightSplits x = new FreightSplits();
        x.pass(5);
        x.consign(1, 10, 10, 0, 99, 9);
        x.consign(1, 10, 10, 0, 99, 9);
        x.vehicle(20, 20);
        x.pass(2);
        Expect.noFault(x, "split 0 1 1;load 1 0;pass 3;go 0;pass 4;");
        Expect.due("play()", x.play(), 5);
        Expect.due("hours of a part", x.consignmentOf(2, 10), 9);
        Expect.due("hours until it departed", x.consignmentOf(1, 10), 5);
        Expect.due("one hour's fee for two", x.count(8), 2);
        Expect.due("delivered at", x.consignmentOf(1, 8), 13);
        x.undo();
        Expect.due("hours", x.consignmentOf(1, 10), 2);
    }
}
