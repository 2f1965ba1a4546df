import java.lang.reflect.InvocationTargetException;
import java.lang.reflect.Method;
import java.lang.reflect.Modifier;
import java.util.Map;
import java.util.TreeMap;
import java.util.function.Supplier;

/**
 * What the tests of the promises' cases share. A case is a static method without parameters, named
 * "promise", its number and the case; Cases.run finds them, so that none is forgotten.
 */
abstract class Cases {
    static final int INVALID = Expect.INVALID;
    static final int NOT_POSSIBLE = Expect.NOT_POSSIBLE;
    static final int LIMIT = Expect.LIMIT;
    static final int NOT_FOUND = Expect.NOT_FOUND;

    private static final int MOST_STATES = 4;
    private static final int LATER = 30;

    private static String running = "";

    interface Call {
        int on(FreightSplits x);
    }

    interface CallWith {
        int on(FreightSplits x, int value);
    }

    /** Runs all cases of a promise and ends the program with 1 if one does not hold. */
    static void run(Class<? extends Cases> tests, int promise) {
        Map<String, Method> cases = new TreeMap<>();
        for (Method m : tests.getDeclaredMethods()) {
            if (m.getName().matches("promise" + promise + "[A-Z].*") && Modifier.isStatic(m.getModifiers())) {
                cases.put(m.getName(), m);
            } else {
                Expect.holds(m.getName() + " is no case", m.getName().equals("main")
                        || !m.getName().startsWith("promise"));
            }
        }
        Expect.holds("promise " + promise + " has cases", !cases.isEmpty());
        for (Map.Entry<String, Method> c : cases.entrySet()) {
            runCase(c.getKey(), c.getValue());
        }
        System.out.print(cases.size() + " cases, ");
        Expect.finish();
    }

    private static void runCase(String name, Method method) {
        running = name + ": ";
        try {
            method.setAccessible(true);
            method.invoke(null);
        } catch (InvocationTargetException e) {
            Expect.holds(running + "threw " + e.getCause(), false);
        } catch (IllegalAccessException e) {
            Expect.holds(running + "cannot be run", false);
        }
    }

    static void due(String call, int got, int want) {
        Expect.due(running + call, got, want);
    }

    static void holds(String what, boolean truth) {
        Expect.holds(running + what, truth);
    }

    static void same(String what, FreightSplits one, FreightSplits other) {
        String difference = State.of(one).differenceTo(State.of(other));
        Expect.holds(running + what + " " + difference, difference.isEmpty());
    }

    static void isConsignment(FreightSplits x, int number, int... values) {
        for (int what = 0; what < values.length; what++) {
            due("consignmentOf(" + number + ", " + what + ")", x.consignmentOf(number, what), values[what]);
        }
    }

    static void isVehicle(FreightSplits x, int number, int... values) {
        for (int what = 0; what < values.length; what++) {
            due("vehicleOf(" + number + ", " + what + ")", x.vehicleOf(number, what), values[what]);
        }
    }

    static void isOffer(FreightSplits x, int index, int... values) {
        for (int what = 0; what < values.length; what++) {
            due("offerOf(" + index + ", " + what + ")", x.offerOf(index, what), values[what]);
        }
    }

    static void countsAre(FreightSplits x, int... values) {
        for (int what = 0; what < values.length; what++) {
            due("count(" + what + ")", x.count(what), values[what]);
        }
    }

    /** A call that answers and changes nothing: not now, nor in any state before, nor later on. */
    static void unchanging(Supplier<FreightSplits> hall, Call call, int answer) {
        for (int undone = 0; undone <= MOST_STATES; undone++) {
            FreightSplits called = hall.get();
            FreightSplits left = hall.get();
            due("the answer", call.on(called), answer);
            for (int i = 0; i < undone; i++) {
                due("undo", called.undo(), left.undo());
            }
            same("changed, after undo " + undone + " times:", called, left);
        }
        FreightSplits called = hall.get();
        FreightSplits left = hall.get();
        due("the answer", call.on(called), answer);
        due("hours later", called.pass(LATER), left.pass(LATER));
        same("changed, hours later:", called, left);
    }

    /** A call that is a change, which undo takes back. */
    static void change(Supplier<FreightSplits> hall, Call call, int answer) {
        FreightSplits x = hall.get();
        FreightSplits before = hall.get();
        int states = x.count(11);
        due("the answer", call.on(x), answer);
        due("states then", x.count(11), Math.min(states + 1, MOST_STATES));
        due("undo", x.undo(), Math.min(states, MOST_STATES - 1));
        String difference = State.of(x).withoutStates().differenceTo(State.of(before).withoutStates());
        holds("undone: " + difference, difference.isEmpty());
    }

    /** The last value that a change allows, and the first one and a far one that it refuses. */
    static void edge(Supplier<FreightSplits> hall, CallWith call, int last, int answer, int wrong) {
        change(hall, x -> call.on(x, last), answer);
        refusedFrom(hall, call, last, wrong);
    }

    /** The same for a question. */
    static void edgeOfQuestion(Supplier<FreightSplits> hall, CallWith call, int last, int answer,
            int wrong) {
        unchanging(hall, x -> call.on(x, last), answer);
        refusedFrom(hall, call, last, wrong);
    }

    private static void refusedFrom(Supplier<FreightSplits> hall, CallWith call, int last, int wrong) {
        unchanging(hall, x -> call.on(x, wrong), INVALID);
        int far = wrong < last ? Integer.MIN_VALUE : Integer.MAX_VALUE;
        unchanging(hall, x -> call.on(x, far), INVALID);
    }
}
