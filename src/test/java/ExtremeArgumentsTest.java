import java.lang.reflect.InvocationTargetException;
import java.lang.reflect.Method;
import java.lang.reflect.Modifier;
import java.util.List;
import java.util.function.Supplier;

/** No call throws, and each answers an error or nought and more, for any arguments in any hall. */
public final class ExtremeArgumentsTest {
    private static final int MOST_CALLS = 400;
    private static final int MOST_ROWS = 6000;
    private static final int[] NUMBERS = {Integer.MIN_VALUE, Integer.MIN_VALUE + 1, -1000001, -2, -1, 0, 1,
        2, 3, 4, 5, 9, 10, 15, 16, 17, 24, 31, 32, 80, 99, 100, 200, 201, 999, 9000, 9999, 10000,
        0x10000, Integer.MAX_VALUE - 1, Integer.MAX_VALUE};
    private static final List<Supplier<FreightSplits>> HALLS = List.of(Halls::empty, Halls::busy, Halls::full,
            Halls::fullyLoaded, Halls::atTheEnd);

    public static void main(String[] args) throws IllegalAccessException {
        for (Method method : FreightSplits.class.getDeclaredMethods()) {
            if (Modifier.isPublic(method.getModifiers())) {
                for (Supplier<FreightSplits> hall : HALLS) {
                    callWithAll(method, hall);
                }
            }
        }
        Expect.finish();
    }

    /** All rows of arguments, or as many as are enough, spread evenly over them. */
    private static void callWithAll(Method method, Supplier<FreightSplits> hall)
            throws IllegalAccessException {
        long all = 1;
        for (int i = 0; i < method.getParameterCount(); i++) {
            all *= NUMBERS.length;
        }
        long step = Math.max(1, all / MOST_ROWS);
        FreightSplits x = hall.get();
        int calls = 0;
        for (long row = 0; row < all; row += step) {
            if (++calls % MOST_CALLS == 0) {
                x = hall.get();
            }
            Integer[] arguments = new Integer[method.getParameterCount()];
            long left = row;
            for (int i = 0; i < arguments.length; i++) {
                arguments[i] = NUMBERS[(int) (left % NUMBERS.length)];
                left /= NUMBERS.length;
            }
            answers(method, x, arguments);
        }
    }

    private static void answers(Method method, FreightSplits x, Integer[] arguments)
            throws IllegalAccessException {
        try {
            int answer = (int) method.invoke(x, (Object[]) arguments);
            boolean isError = answer >= Expect.NOT_FOUND && answer <= Expect.INVALID;
            Expect.holds(method.getName() + List.of(arguments) + " answered " + answer,
                    answer >= 0 || isError);
        } catch (InvocationTargetException e) {
            Expect.holds(method.getName() + List.of(arguments) + " threw " + e.getCause(), false);
        }
    }
}
