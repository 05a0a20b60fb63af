import java.lang.reflect.InvocationTargetException;
import java.lang.reflect.Method;
import java.lang.reflect.Modifier;
import java.util.Arrays;
import java.util.Map;
import java.util.TreeMap;

/** The program and the model, led by the same calls, which are told by their names. */
final class Pair {
    private static final Map<String, Method> FACE = new TreeMap<>();
    private static final Map<String, Method> MODEL = new TreeMap<>();

    static {
        for (Method m : WishedResistor.class.getDeclaredMethods()) {
            if (Modifier.isPublic(m.getModifiers())) {
                FACE.put(m.getName(), m);
            }
        }
        for (Map.Entry<String, Method> e : FACE.entrySet()) {
            try {
                MODEL.put(e.getKey(), Model.class.getDeclaredMethod(e.getKey(), e.getValue().getParameterTypes()));
            } catch (NoSuchMethodException x) {
                throw new IllegalStateException(e.getKey());
            }
        }
    }

    private final Check check;
    private final WishedResistor x = new WishedResistor();
    private final Model m = new Model();
    private int calls;

    Pair(Check itsCheck) {
        check = itsCheck;
    }

    static Iterable<String> names() {
        return FACE.keySet();
    }

    static int numbersOf(String name) {
        return FACE.get(name).getParameterCount();
    }

    /** An object is used for 512 calls. */
    boolean isUsedUp() {
        return calls >= 512;
    }

    /** What the program answers. */
    long call(String name, int... numbers) {
        Object[] row = new Object[numbers.length];
        for (int i = 0; i < row.length; i++) {
            row[i] = numbers[i];
        }
        calls++;
        String shown = name + Arrays.toString(numbers);
        try {
            long got = ((Number) FACE.get(name).invoke(x, row)).longValue();
            check.due(shown, got, ((Number) MODEL.get(name).invoke(m, row)).longValue());
            return got;
        } catch (InvocationTargetException e) {
            check.text(shown, "throws " + e.getCause(), "throws nothing");
            return 0;
        } catch (IllegalAccessException e) {
            throw new IllegalStateException(shown);
        }
    }

    void text(String text) {
        for (int i = 0; i < text.length(); i++) {
            call("feed", text.charAt(i));
        }
    }
}
