import java.nio.file.Files;
import java.nio.file.Path;
import java.util.Map;
import java.util.regex.Matcher;
import java.util.regex.Pattern;

/** The examples of README.md, all as one run of calls: each answers what stands behind it. */
public final class ReadmeTests {
    private static final Pattern LINE = Pattern.compile("x\\.(\\w+\\(.*\\)); *// (-?\\d+|[A-Z]+)(:.*)?");
    private static final Pattern LETTER = Pattern.compile("'(.)'");
    private static final Map<String, Integer> NAMES = Map.of(
        "BAD", ClimbedFruit.BAD, "NOT", ClimbedFruit.NOT, "FULL", ClimbedFruit.FULL, "NONE", ClimbedFruit.NONE,
        "NULL", ClimbedFruit.NULL, "CAST", ClimbedFruit.CAST, "INDEX", ClimbedFruit.INDEX, "SIZE", ClimbedFruit.SIZE);
    private static final Due DUE = new Due();

    public static void main(String[] args) throws Exception {
        Calls x = new Calls();
        for (String line : Files.readAllLines(Path.of("README.md"))) {
            if (line.startsWith("x.")) {
                ask(x, line);
            }
        }
        DUE.is(0, "README.md shows so few calls", x.asked() < 37 ? 1 : 0, 0);
        DUE.end("ReadmeTests");
    }

    private static void ask(Calls x, String line) {
        Matcher m = LINE.matcher(line);
        boolean isCall = m.matches();
        DUE.is(0, "a call with its answer: " + line, isCall ? 1 : 0, 1);
        if (isCall) {
            Integer named = NAMES.get(m.group(2));
            int due = named != null ? named : Integer.parseInt(m.group(2));
            String call = LETTER.matcher(m.group(1)).replaceAll(l -> String.valueOf((int) l.group(1).charAt(0)));
            DUE.is(0, "README.md: " + m.group(1), x.ask(call), due);
        }
    }
}
