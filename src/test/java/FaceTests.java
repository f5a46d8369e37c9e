import java.lang.reflect.Constructor;
import java.lang.reflect.Field;
import java.lang.reflect.Method;
import java.lang.reflect.Modifier;
import java.nio.file.Files;
import java.nio.file.Path;
import java.util.Arrays;
import java.util.Map;
import java.util.Set;
import java.util.TreeMap;
import java.util.TreeSet;
import java.util.regex.Pattern;

/** The public face, as the document writes it, and what LANGUAGE.md says of members and words. */
public final class FaceTests {
    private static final Due DUE = new Due();

    private static final String[] FACE = {
        "tree(int)", "cutting(int)", "climber(int,int,int,int)", "set(int,int,int)", "told(int,int)", "of(int,int)",
        "price(int,int)", "fence(int,int)", "climb(int,int)", "type(int)", "commons()", "count(int)",
        "bears(int,int)", "basket(int,int)", "value(int)", "year()", "seed(int)", "best(int)", "worth(int)",
        "game(int)", "fences(int,int)", "upper()", "lower()", "send()", "image()", "restore()",
        "hired(int,int,int,int)", "night(int,int,int,int)", "pie(int,int,int,int)", "earned(int,int,int,int,int)",
        "again(int,int,int,int,int)", "film(int,int,int)", "sheet(int,int,int)", "drop(int)",
        "item(int,int,int,long)", "copy(int,int,int,int,int)"
    };

    public static void main(String[] args) throws Exception {
        constants();
        methods();
        membersOfClassesInside();
        words();
        DUE.end("FaceTests");
    }

    private static void constants() throws IllegalAccessException {
        Map<String, Integer> due = new TreeMap<>(Map.of("BAD", -1, "NOT", -2, "FULL", -3, "NONE", -4, "NULL", -11,
            "CAST", -12, "INDEX", -13, "SIZE", -14));
        for (Field f : ClimbedFruit.class.getDeclaredFields()) {
            int m = f.getModifiers();
            if (Modifier.isPrivate(m)) {
                continue;
            }
            DUE.is(0, "a constant " + f.getName(), due.containsKey(f.getName()) ? 1 : 0, 1);
            DUE.is(0, f.getName() + " is public, static, final",
                Modifier.isPublic(m) && Modifier.isStatic(m) && Modifier.isFinal(m) ? 1 : 0, 1);
            DUE.is(0, f.getName(), f.getInt(null), due.remove(f.getName()));
        }
        DUE.is(0, "constants that are missing: " + due, due.size(), 0);
    }

    private static void methods() {
        DUE.is(1, "the class is public and final",
            ClimbedFruit.class.getModifiers() & (Modifier.PUBLIC | Modifier.FINAL), Modifier.PUBLIC | Modifier.FINAL);
        Constructor<?>[] made = ClimbedFruit.class.getDeclaredConstructors();
        DUE.is(1, "constructors", made.length, 1);
        DUE.is(1, "parameters of the constructor", made[0].getParameterCount(), 0);
        DUE.is(1, "the constructor is public", Modifier.isPublic(made[0].getModifiers()) ? 1 : 0, 1);
        Set<String> due = new TreeSet<>(Arrays.asList(FACE));
        for (Method m : ClimbedFruit.class.getDeclaredMethods()) {
            if (!Modifier.isPrivate(m.getModifiers())) {
                String types = String.join(",", Arrays.stream(m.getParameterTypes()).map(Class::getName).toList());
                String name = m.getName() + "(" + types + ")";
                DUE.is(0, name + " is in the face", due.remove(name) ? 1 : 0, 1);
                DUE.is(0, name + " answers an int", m.getReturnType() == int.class ? 1 : 0, 1);
                DUE.is(0, name + " is public", Modifier.isPublic(m.getModifiers()) ? 1 : 0, 1);
            }
        }
        DUE.is(0, "methods that are missing: " + due, due.size(), 0);
    }

    private static void membersOfClassesInside() {
        Set<String> names = new TreeSet<>();
        for (String f : FACE) {
            names.add(f.substring(0, f.indexOf('(')));
        }
        for (Method m : ClimbedFruit.class.getDeclaredMethods()) {
            boolean isTwice = Modifier.isPrivate(m.getModifiers()) && names.contains(m.getName());
            DUE.is(0, "rule 1: a private method " + m.getName(), isTwice ? 1 : 0, 0);
        }
        Class<?>[] inside = ClimbedFruit.class.getDeclaredClasses();
        DUE.is(0, "rule 11: at most twelve classes", inside.length <= 11 ? 1 : 0, 1);
        for (Class<?> c : inside) {
            DUE.is(0, "rule 1: static: " + c, Modifier.isStatic(c.getModifiers()) ? 1 : 0, 1);
            for (Method m : c.getDeclaredMethods()) {
                DUE.is(0, "rule 1: " + m + " bears a name of the face", names.contains(m.getName()) ? 1 : 0, 0);
                DUE.is(0, "rule 11: parameters of " + m, m.getParameterCount() <= 7 ? 1 : 0, 1);
            }
            long fields = Arrays.stream(c.getDeclaredFields()).filter(f -> !Modifier.isStatic(f.getModifiers())).count();
            DUE.is(0, "rule 11: fields of " + c, fields <= 20 ? 1 : 0, 1);
        }
    }

    private static void words() throws Exception {
        String text = Files.readString(Path.of("src/main/java/ClimbedFruit.java"));
        String[] words = {"\\btry\\b", "\\bcatch\\b", "\\bfinally\\b", "->", "::", "Exact\\b", "\\bstatic \\{", "\\bsynchronized\\b",
            "\\bassert\\b", "\\bprotected\\b", "^package\\b", "Integer\\.M", "Long\\.M", "\\bdouble\\b", "\\bfloat\\b"};
        for (String w : words) {
            boolean found = Pattern.compile(w, Pattern.MULTILINE).matcher(text).find();
            DUE.is(0, "LANGUAGE.md: the file has " + w, found ? 1 : 0, 0);
        }
        boolean isPlain = text.chars().allMatch(c -> c == '\n' || c >= 32 && c <= 126);
        DUE.is(0, "plain letters alone", isPlain ? 1 : 0, 1);
    }
}
