import java.lang.reflect.InvocationTargetException;
import java.lang.reflect.Method;
import java.util.HashMap;
import java.util.Map;

/**
 * One object of the program, asked by calls that are written as texts, as issues tell them:
 * "tree(0)", "item(0, 3, 1, LMAX)". MIN, MAX are the least and the most int, LMIN, LMAX those of longs.
 * Beside the face there are write(P, Ga): each letter is typed; text(P, Ga): and read as a COMMONS;
 * fill(0, 2, 5, 5): a SHEET of a LANE with these items.
 */
final class Calls {
    private static final Map<String, Method> FACE = new HashMap<>();
    private static final Map<String, Long> NAMES = Map.of(
        "MIN", (long) Integer.MIN_VALUE, "MAX", (long) Integer.MAX_VALUE,
        "LMIN", Long.MIN_VALUE, "LMAX", Long.MAX_VALUE);

    static {
        for (Method m : ClimbedFruit.class.getMethods()) {
            if (m.getDeclaringClass() == ClimbedFruit.class) {
                FACE.put(m.getName(), m);
            }
        }
    }

    private final ClimbedFruit x = new ClimbedFruit();
    private int asked;

    /** How many calls the object has had: the document speaks of 512. */
    int asked() {
        return asked;
    }

    int ask(String call) {
        int open = call.indexOf('(');
        String name = call.substring(0, open);
        String inside = call.substring(open + 1, call.length() - 1);
        switch (name) {
            case "write": return write(inside);
            case "text": write(inside); return askFace("commons");
            case "fill": return fill(numbers(inside));
            default: return askFace(name, numbers(inside));
        }
    }

    private int write(String text) {
        int answer = 0;
        for (int i = 0; i < text.length(); i++) {
            answer = askFace("type", text.charAt(i));
        }
        return answer;
    }

    private int fill(long[] numbers) {
        int length = numbers.length - 2;
        int answer = askFace("sheet", numbers[0], numbers[1], length);
        for (int i = 0; i < length; i++) {
            askFace("item", numbers[0], numbers[1], i, numbers[i + 2]);
        }
        return answer;
    }

    private static long[] numbers(String inside) {
        if (inside.isBlank()) {
            return new long[0];
        }
        String[] parts = inside.split(",");
        long[] numbers = new long[parts.length];
        for (int i = 0; i < parts.length; i++) {
            String part = parts[i].trim();
            numbers[i] = NAMES.containsKey(part) ? NAMES.get(part) : Long.parseLong(part);
        }
        return numbers;
    }

    private int askFace(String name, long... numbers) {
        Method m = FACE.get(name);
        Class<?>[] types = m.getParameterTypes();
        Object[] given = new Object[numbers.length];
        for (int i = 0; i < given.length; i++) {
            // A number that is no int where one is due is a slip of the test: that ends it.
            given[i] = types[i] == long.class ? (Object) numbers[i] : (Object) Math.toIntExact(numbers[i]);
        }
        asked++;
        try {
            return (int) m.invoke(x, given);
        } catch (InvocationTargetException e) {
            throw new IllegalStateException(name + " has thrown", e.getCause());
        } catch (IllegalAccessException e) {
            throw new IllegalStateException(e);
        }
    }
}
