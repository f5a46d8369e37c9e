import java.util.ArrayList;
import java.util.List;
import java.util.Map;
import java.util.regex.Matcher;
import java.util.regex.Pattern;

/**
 * Runs of calls on a new object, a call a line, with what is due:
 * <pre>
 *   tree(0) = 0       the answer
 *   tree(4) ! BAD     the answer, and that the call changes nothing
 *   tree(0)           asked, whatever it answers
 *   60 * type(32)     asked so many times
 * </pre>
 * Behind # stands why.
 */
final class Edges {
    private static final Pattern LINE = Pattern.compile("(?:(\\d+) \\* )?(\\w+\\(.*\\))(?: ([=!]) (\\S+))?");
    private static final Map<String, Integer> NAMES = Map.of(
        "BAD", ClimbedFruit.BAD, "NOT", ClimbedFruit.NOT, "FULL", ClimbedFruit.FULL, "NONE", ClimbedFruit.NONE,
        "NULL", ClimbedFruit.NULL, "CAST", ClimbedFruit.CAST, "INDEX", ClimbedFruit.INDEX, "SIZE", ClimbedFruit.SIZE);
    private static final int MOST_CALLS = 512;

    /** Four CLIMBERS (HONEST, LIAR, MONK, FOX: they bring 3, 6, 8, 9), five TREES, and something of all else. */
    static final String RICH = """
        climber(0, 3, 2, 10)
        climber(1, 4, 1, 0)
        climber(2, 8, 6, 10)
        climber(3, 1, 3, 10)
        text(Pab,Gab,Dc,Sdf,Gbd)
        climb(0, 0)
        climb(1, 2)
        climb(2, 2)
        year()
        price(3, -9)
        fence(0, 2)
        climb(3, 1)
        image()
        climb(4, 3)
        climb(3, 5)
        fence(1, 8)
        year()
        climb(0, 0)
        climb(1, 2)
        price(9, 50)
        fill(0, 2, 0, 1, 2, 3, 5, 0, 1, 2, 3, 5, 0, 1)
        fill(1, 0, 3, 2, 1, 0)
        fill(2, 2, 5, 5)
        write(P a,)
        """;

    /** All that can be full but THE TAPE: five CLIMBERS (the MONK is 2), six TREES, SHEETS of sixteen items. */
    static final String CROWDED = """
        climber(0, 1, 1, 1)
        climber(1, 2, 2, 2)
        climber(2, 3, 3, 3)
        climber(3, 4, 4, 4)
        climber(0, 5, 5, 5)
        text(Pa,Gb,Dc,Sd,Pe,Gf)
        sheet(0, 0, 16)
        sheet(1, 1, 16)
        sheet(2, 2, 16)
        sheet(3, 3, 16)
        """;

    private record Step(int times, String call, char sign, int due) {
    }

    private final Due due;
    private final int promise;

    Edges(Due due, int promise) {
        this.due = due;
        this.promise = promise;
    }

    /** A run that is one: each ! is tried beside a twin of the object, too. */
    void run(String lines) {
        List<Step> steps = read(lines);
        Calls asked = new Calls();
        boolean isLong = false;
        for (int k = 0; k < steps.size(); k++) {
            Step step = steps.get(k);
            isLong |= step.times > MOST_CALLS;
            take(asked, step);
            if (step.sign == '!') {
                tryBesideTwin(steps.subList(0, k), step);
            }
        }
        due.is(promise, "calls beyond what the document speaks of", isLong ? 0 : Math.max(0, asked.asked() - MOST_CALLS), 0);
    }

    private static List<Step> read(String lines) {
        List<Step> steps = new ArrayList<>();
        for (String line : lines.split("\n")) {
            String bare = line.replaceAll("\\s+#.*", "").strip();
            if (!bare.isEmpty() && bare.charAt(0) != '#') {
                steps.add(readStep(bare));
            }
        }
        return steps;
    }

    private static Step readStep(String line) {
        Matcher m = LINE.matcher(line);
        if (!m.matches()) {
            throw new IllegalStateException("not a line of a run: " + line);
        }
        int times = m.group(1) == null ? 1 : Integer.parseInt(m.group(1));
        if (m.group(3) == null) {
            return new Step(times, m.group(2), ' ', 0);
        }
        Integer named = NAMES.get(m.group(4));
        return new Step(times, m.group(2), m.group(3).charAt(0), named != null ? named : Integer.parseInt(m.group(4)));
    }

    private void take(Calls asked, Step step) {
        for (int k = 0; k < step.times; k++) {
            int answer = asked.ask(step.call);
            if (step.sign != ' ') {
                due.is(promise, step.call, answer, step.due);
            }
        }
    }

    private void tryBesideTwin(List<Step> ahead, Step step) {
        Calls one = new Calls();
        Calls other = new Calls();
        boolean isLong = false;
        for (Step s : ahead) {
            isLong |= s.times > MOST_CALLS;
            // What changes nothing is left out, so that the calls stay few.
            for (int k = 0; k < s.times && s.sign != '!'; k++) {
                one.ask(s.call);
                other.ask(s.call);
            }
        }
        one.ask(step.call);
        new Twins(due, promise, step.call, one, other).areAlike();
        due.is(promise, "calls of twins beyond what the document speaks of", isLong ? 0 : Math.max(0, one.asked() - MOST_CALLS), 0);
    }
}
