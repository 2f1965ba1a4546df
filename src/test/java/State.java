import java.util.ArrayList;
import java.util.List;

/** All that an object tells of itself, an answer a line; at most 340 calls, none of them a change. */
final class State {
    private static final String STATES = "count(11)";

    private final List<String> lines = new ArrayList<>();

    private State() {
    }

    static State of(FreightSplits x) {
        State state = new State();
        state.addCounts(x);
        state.addConsignments(x);
        state.addVehicles(x);
        state.addOffers(x);
        state.addPlans(x);
        return state;
    }

    /** The first answer in which both differ, or an empty text. */
    String differenceTo(State other) {
        int most = Math.max(lines.size(), other.lines.size());
        for (int i = 0; i < most; i++) {
            String here = i < lines.size() ? lines.get(i) : "nothing";
            String there = i < other.lines.size() ? other.lines.get(i) : "nothing";
            if (!here.equals(there)) {
                return here + ", not " + there;
            }
        }
        return "";
    }

    State withoutStates() {
        lines.removeIf(line -> line.startsWith(STATES));
        return this;
    }

    private void add(String call, int answer) {
        lines.add(call + " = " + answer);
    }

    private void addCounts(FreightSplits x) {
        for (int what = 0; what <= 12; what++) {
            add("count(" + what + ")", x.count(what));
        }
        for (int what = 20; what <= 22; what++) {
            add("count(" + what + ")", x.count(what));
        }
    }

    private void addConsignments(FreightSplits x) {
        for (int i = 0; i < 16; i++) {
            int last = x.consignmentOf(i, 0) == Expect.INVALID ? 0 : 10;
            for (int what = 0; what <= last; what++) {
                add("consignmentOf(" + i + ", " + what + ")", x.consignmentOf(i, what));
            }
        }
    }

    private void addVehicles(FreightSplits x) {
        for (int i = 0; i < 4; i++) {
            for (int what = 0; what <= 9; what++) {
                add("vehicleOf(" + i + ", " + what + ")", x.vehicleOf(i, what));
            }
        }
    }

    private void addOffers(FreightSplits x) {
        int offers = x.count(10);
        for (int i = 0; i < offers && i < 10; i++) {
            for (int what = 0; what <= 4; what++) {
                add("offerOf(" + i + ", " + what + ")", x.offerOf(i, what));
            }
        }
    }

    private void addPlans(FreightSplits x) {
        for (int vehicle = 0; vehicle < 4; vehicle++) {
            for (int place = 1; place <= 4; place++) {
                for (int rule = 0; rule <= 2; rule++) {
                    add("wouldFill(" + vehicle + ", " + place + ", " + rule + ")",
                            x.wouldFill(vehicle, place, rule));
                }
            }
            add("wouldEarn(" + vehicle + ")", x.wouldEarn(vehicle));
        }
        add("hopeless()", x.hopeless());
        add("fault(0)", x.fault(0));
        add("fault(1)", x.fault(1));
    }
}
