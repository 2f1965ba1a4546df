import java.lang.reflect.Constructor;
import java.lang.reflect.Field;
import java.lang.reflect.Method;
import java.lang.reflect.Modifier;
import java.util.Arrays;
import java.util.Map;
import java.util.Set;
import java.util.TreeMap;
import java.util.TreeSet;

/** The public face of the document, and the rules of ../shared/LANGUAGE.md that can be looked up. */
public final class FaceTest {
    static final Map<String, Integer> METHODS = Map.ofEntries(
            Map.entry("consign", 6), Map.entry("split", 3), Map.entry("join", 2),
            Map.entry("vehicle", 2), Map.entry("load", 2), Map.entry("unload", 1),
            Map.entry("fill", 3), Map.entry("depart", 1), Map.entry("offer", 5),
            Map.entry("pass", 1), Map.entry("set", 2), Map.entry("consignmentOf", 2),
            Map.entry("vehicleOf", 2), Map.entry("offerOf", 2), Map.entry("count", 1),
            Map.entry("wouldFill", 3), Map.entry("wouldEarn", 1), Map.entry("hopeless", 0),
            Map.entry("undo", 0), Map.entry("type", 1), Map.entry("clearText", 0),
            Map.entry("fault", 1), Map.entry("play", 0));
    static final Map<String, Integer> CONSTANTS = Map.of("INVALID_ARGUMENT", -1000001,
            "NOT_POSSIBLE", -1000002, "LIMIT_REACHED", -1000003, "NOT_FOUND", -1000004);

    public static void main(String[] args) throws IllegalAccessException {
        Class<?> face = FreightSplits.class;
        Expect.due("modifiers", face.getModifiers(), Modifier.PUBLIC | Modifier.FINAL);
        constructorsAreTheDocuments(face);
        methodsAreTheDocuments(face);
        constantsAreTheDocuments(face);
        Class<?>[] inside = face.getDeclaredClasses();
        Expect.holds("at most twelve classes", inside.length < 12);
        fieldsAreFew(face);
        for (Class<?> c : inside) {
            classInside(c);
        }
        Expect.finish();
    }

    private static void constructorsAreTheDocuments(Class<?> face) {
        Constructor<?>[] all = face.getDeclaredConstructors();
        Expect.due("constructors", all.length, 1);
        Expect.due("its modifiers", all[0].getModifiers(), Modifier.PUBLIC);
        Expect.due("its parameters", all[0].getParameterCount(), 0);
    }

    private static void methodsAreTheDocuments(Class<?> face) {
        Map<String, Integer> shown = new TreeMap<>();
        for (Method m : face.getDeclaredMethods()) {
            if (Modifier.isPrivate(m.getModifiers())) {
                Expect.holds("private " + m.getName() + " bears no public name",
                        !METHODS.containsKey(m.getName()));
                continue;
            }
            Expect.due("modifiers of " + m.getName(), m.getModifiers(), Modifier.PUBLIC);
            Expect.holds(m.getName() + " returns an int", m.getReturnType() == int.class);
            Expect.holds(m.getName() + " takes ints", Arrays.stream(m.getParameterTypes())
                    .allMatch(t -> t == int.class));
            Expect.holds(m.getName() + " is there once",
                    shown.put(m.getName(), m.getParameterCount()) == null);
        }
        Expect.holds("methods " + shown, shown.equals(METHODS));
    }

    private static void constantsAreTheDocuments(Class<?> face) throws IllegalAccessException {
        Set<String> shown = new TreeSet<>();
        for (Field f : face.getDeclaredFields()) {
            if (!Modifier.isPrivate(f.getModifiers())) {
                shown.add(f.getName());
                Expect.due("modifiers of " + f.getName(), f.getModifiers(),
                        Modifier.PUBLIC | Modifier.STATIC | Modifier.FINAL);
                Expect.due(f.getName(), f.getInt(null), CONSTANTS.getOrDefault(f.getName(), 0));
            }
        }
        Expect.holds("constants " + shown, shown.equals(CONSTANTS.keySet()));
    }

    private static void fieldsAreFew(Class<?> c) {
        int fields = 0;
        for (Field f : c.getDeclaredFields()) {
            boolean isStatic = Modifier.isStatic(f.getModifiers());
            fields += isStatic ? 0 : 1;
            Expect.holds(f + " is final if static", !isStatic || Modifier.isFinal(f.getModifiers()));
        }
        Expect.holds("at most twenty fields in " + c, fields <= 20);
    }

    private static void classInside(Class<?> c) {
        int shown = c.getModifiers() & (Modifier.PUBLIC | Modifier.PROTECTED);
        Expect.due("modifiers of " + c, shown, 0);
        Expect.holds(c + " is static", Modifier.isStatic(c.getModifiers()));
        fieldsAreFew(c);
        for (Method m : c.getDeclaredMethods()) {
            Expect.holds(m + " bears no public name", !METHODS.containsKey(m.getName()));
            Expect.holds(m + " takes at most seven", m.getParameterCount() <= 7);
        }
    }
}
