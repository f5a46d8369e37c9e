import java.lang.reflect.Method;
import java.util.Arrays;
import java.util.Comparator;
import java.util.Random;

/** Rules 6, 7, 13 of LANGUAGE.md: whatever is asked in whatever state, nothing is thrown, and the same calls answer the same. */
public final class NothingThrownTests {
    private static final int RUNS = 600;
    private static final int MOST_CALLS = 512;
    private static final String[] BEGINNINGS = {"count(0)", Edges.RICH, Edges.CROWDED};
    /** The edges of the document's numbers; those that are mostly fine stand there more than once. */
    private static final String[] NUMBERS = ("0 0 0 0 1 1 1 2 2 3 3 4 5 5 6 7 8 9 10 11 12 15 16 17 31 32 33 44 60 61 68 71 80 83 97 98 99 "
        + "100 102 126 127 128 199 200 201 9999 10000 -1 -1 -1 -2 -9 -10 -128 -9999 -10000 -100001 "
        + "MAX 2147483646 2147483639 2147483632 MIN -2147483647").split(" ");
    private static final Due DUE = new Due();

    public static void main(String[] args) {
        Method[] face = face();
        for (int run = 0; run < RUNS; run++) {
            askDrawn(face, run);
        }
        DUE.end("NothingThrownTests");
    }

    /** In the order of their names, for the machine tells them in none. */
    private static Method[] face() {
        return Arrays.stream(ClimbedFruit.class.getMethods())
            .filter(m -> m.getDeclaringClass() == ClimbedFruit.class)
            .sorted(Comparator.comparing(Method::getName))
            .toArray(Method[]::new);
    }

    private static void askDrawn(Method[] face, int run) {
        // Seeds that lie close together draw alike at first.
        Random random = new Random(run * 0x9E3779B97F4A7C15L);
        Calls one = new Calls();
        Calls other = new Calls();
        for (String call : BEGINNINGS[run % BEGINNINGS.length].strip().split("\n")) {
            one.ask(call.strip());
            other.ask(call.strip());
        }
        while (one.asked() < MOST_CALLS) {
            String call = drawn(face[random.nextInt(face.length)], random);
            try {
                DUE.is(0, "run " + run + ": " + call + " of a second object", other.ask(call), one.ask(call));
            } catch (IllegalStateException e) {
                DUE.is(0, "run " + run + ": " + call + " throws " + e.getCause(), 1, 0);
                return;
            }
        }
    }

    private static String drawn(Method m, Random random) {
        StringBuilder call = new StringBuilder(m.getName()).append('(');
        for (Class<?> type : m.getParameterTypes()) {
            String number = NUMBERS[random.nextInt(NUMBERS.length)];
            boolean isFar = type == long.class && random.nextInt(4) == 0;
            call.append(call.charAt(call.length() - 1) == '(' ? "" : ", ").append(isFar ? "" + random.nextLong() : number);
        }
        return call.append(')').toString();
    }
}
