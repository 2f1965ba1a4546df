/** Counts answers that are not the ones due, and ends the program with 1 if there were any. */
final class Expect {
    static final int INVALID = -1000001;
    static final int NOT_POSSIBLE = -1000002;
    static final int LIMIT = -1000003;
    static final int NOT_FOUND = -1000004;

    private static int wrong = 0;
    private static int looked = 0;

    private Expect() {
    }

    static void due(String call, long got, long want) {
        looked++;
        if (got != want) {
            wrong++;
            System.out.println(call + " answered " + got + ", due is " + want);
        }
    }

    static void holds(String what, boolean truth) {
        looked++;
        if (!truth) {
            wrong++;
            System.out.println("does not hold: " + what);
        }
    }

    /** Types a text, each character of which must be taken. */
    static void typed(FreightSplits x, String text) {
        int length = x.count(12);
        for (int i = 0; i < text.length(); i++) {
            due("type '" + text.charAt(i) + "'", x.type(text.charAt(i)), length + i + 1);
        }
    }

    /** Looks at the fault of a text that is typed instead of the one there was. */
    static void fault(FreightSplits x, String text, int position, int reason) {
        x.clearText();
        typed(x, text);
        due("fault(0) of \"" + text + "\"", x.fault(0), position);
        due("fault(1) of \"" + text + "\"", x.fault(1), reason);
        due("play() of \"" + text + "\"", x.play(), NOT_POSSIBLE);
    }

    static void noFault(FreightSplits x, String text) {
        x.clearText();
        typed(x, text);
        due("fault(0) of \"" + text + "\"", x.fault(0), NOT_FOUND);
        due("fault(1) of \"" + text + "\"", x.fault(1), NOT_FOUND);
    }

    static void finish() {
        System.out.println(looked + " looked at, " + wrong + " wrong");
        if (wrong != 0) {
            System.exit(1);
        }
    }
}
