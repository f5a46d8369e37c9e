import java.lang.management.ManagementFactory;
import java.lang.reflect.Array;
import java.lang.reflect.Field;
import java.lang.reflect.Modifier;
import java.util.ArrayDeque;
import java.util.Collections;
import java.util.Deque;
import java.util.IdentityHashMap;
import java.util.Set;

/** Rule 12 of LANGUAGE.md: an object takes little room when it is made, and its calls take none. */
public final class RoomTests {
    /** Of 54 calls each: not beyond the 512 that the document speaks of. */
    private static final int ROUNDS = 9;
    private static final int TRIES = 5;
    private static final Due DUE = new Due();

    public static void main(String[] args) throws Exception {
        ClimbedFruit x = new ClimbedFruit();
        long[] room = roomOf(x);
        DUE.is(0, "objects and arrays of a new object: " + room[0], room[0] <= 100 ? 1 : 0, 1);
        DUE.is(0, "fields and elements of a new object: " + room[1], room[1] <= 7000 ? 1 : 0, 1);
        askAll(x);
        long[] later = roomOf(x);
        DUE.is(0, "objects and arrays behind many calls", later[0], room[0]);
        DUE.is(0, "fields and elements behind many calls", later[1], room[1]);
        // The least of some tries, for the machine itself takes room for what it meets for the first time.
        long least = bytesTaken(new ClimbedFruit());
        for (int k = 1; k < TRIES; k++) {
            least = Math.min(least, bytesTaken(new ClimbedFruit()));
        }
        DUE.is(0, "bytes that calls take", least, 0);
        DUE.end("RoomTests");
    }

    private static long bytesTaken(ClimbedFruit x) {
        long ahead = taken();
        long byAsking = taken() - ahead;
        ahead = taken();
        askAll(x);
        return taken() - ahead - byAsking;
    }

    private static long taken() {
        var threads = (com.sun.management.ThreadMXBean) ManagementFactory.getThreadMXBean();
        return threads.getCurrentThreadAllocatedBytes();
    }

    /** Every call of the face, with TREES and CLIMBERS to the full. */
    private static void askAll(ClimbedFruit x) {
        for (int c = 0; c < 5; c++) {
            x.climber(c % 4, c + 1, c, c);
        }
        for (int round = 0; round < ROUNDS; round++) {
            askTrees(x);
            askOrders(x);
            askSheets(x);
        }
    }

    private static void askTrees(ClimbedFruit x) {
        for (int k = 0; k < 11; k++) {
            x.type(k % 2 == 0 ? 'P' : ',');
        }
        x.commons();
        x.type('P');
        x.commons();
        for (int t = 0; t < 5; t++) {
            x.tree(t % 4);
        }
        x.cutting(0);
        x.set(0, 1, 2);
        x.told(0, 4);
        x.of(0, 2);
        x.price(9, 50);
        x.fence(0, 1);
        x.climb(1, 2);
        x.count(4);
        x.bears(0, 0);
        x.basket(0, 1);
        x.value(1);
        x.year();
        x.seed(5);
    }

    private static void askOrders(ClimbedFruit x) {
        x.best(-1);
        x.best(0);
        x.worth(2);
        x.game(5);
        x.fences(31, 10);
        x.image();
        x.send();
        x.upper();
        x.lower();
        x.restore();
    }

    private static void askSheets(ClimbedFruit x) {
        x.sheet(0, 0, 16);
        x.sheet(1, 0, 16);
        x.item(0, 0, 8, 1);
        x.hired(0, 0, 0, -1);
        x.hired(0, 0, 0, 0);
        x.night(1, 0, 0, 1);
        x.film(0, 0, 0);
        x.pie(0, 0, 0, 1);
        x.earned(1, 0, 0, 8, 200);
        x.again(1, 0, 0, 8, 1);
        x.copy(0, 0, 1, 1, 5);
        x.drop(1);
    }

    /** How many objects and arrays hang on an object, itself too; how many fields and elements they have. */
    private static long[] roomOf(ClimbedFruit x) throws IllegalAccessException {
        Set<Object> seen = Collections.newSetFromMap(new IdentityHashMap<>());
        Deque<Object> open = new ArrayDeque<>();
        open.add(x);
        seen.add(x);
        long parts = 0;
        while (!open.isEmpty()) {
            Object one = open.remove();
            boolean isArray = one.getClass().isArray();
            parts += isArray ? Array.getLength(one) : 0;
            if (one instanceof Object[] row) {
                for (Object held : row) {
                    meet(held, seen, open);
                }
            }
            for (Field f : isArray ? new Field[0] : one.getClass().getDeclaredFields()) {
                if (!Modifier.isStatic(f.getModifiers())) {
                    parts++;
                    f.setAccessible(true);
                    meet(f.getType().isPrimitive() ? null : f.get(one), seen, open);
                }
            }
        }
        return new long[] {seen.size(), parts};
    }

    private static void meet(Object held, Set<Object> seen, Deque<Object> open) {
        if (held != null && seen.add(held)) {
            open.add(held);
        }
    }
}
