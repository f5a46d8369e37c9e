import java.util.ArrayList;
import java.util.Arrays;
import java.util.HashMap;
import java.util.List;
import java.util.Map;
import java.util.regex.Matcher;
import java.util.regex.Pattern;

/**
 * The document once more, in the slowest and plainest way: every order is written out, every fall is
 * weighed, every year of a rota is lived through. The program is compared with it.
 */
final class Oracle {
    private static final int KIND = 0, NOW = 1, LAST = 2, BEFORE = 3, LAST_FELL = 4, BEFORE_FELL = 5, FENCE = 6;

    private List<int[]> trees = new ArrayList<>();
    private List<int[]> climbers = new ArrayList<>();
    private int[] prices = {0, 1, 2, 3, 4, 5, 6, 7, 8, 9};
    private long draw = 1;
    private int years;
    private int fell;
    private Oracle kept;
    private String tape = "";
    private final Object[] sheets = new Object[4];

    private static List<int[]> deep(List<int[]> rows) {
        List<int[]> copy = new ArrayList<>();
        for (int[] r : rows) {
            copy.add(r.clone());
        }
        return copy;
    }

    private void takeOver(Oracle o) {
        trees = deep(o.trees);
        climbers = deep(o.climbers);
        prices = o.prices.clone();
        draw = o.draw;
        years = o.years;
        fell = o.fell;
    }

    int treeCount() {
        return trees.size();
    }

    int climberCount() {
        return climbers.size();
    }

    int tree(int kind) {
        if (kind < 0 || kind > 3) {
            return -1;
        }
        if (trees.size() == 6) {
            return -3;
        }
        trees.add(new int[] {kind, 5, 5, 5, 0, 0, 0});
        return trees.size() - 1;
    }

    int cutting(int tree) {
        if (tree < 0 || tree >= trees.size()) {
            return -1;
        }
        if (trees.size() == 6) {
            return -3;
        }
        int[] young = trees.get(tree).clone();
        young[NOW] = 5;
        young[FENCE] = 0;
        trees.add(young);
        return trees.size() - 1;
    }

    int climber(int kind, int fruit, int wage, int odds) {
        if (kind < 0 || kind > 3 || fruit < 1 || fruit > 9 || wage < 0 || wage > 99 || odds < 0 || odds > 10) {
            return -1;
        }
        if (climbers.size() == 5) {
            return -3;
        }
        climbers.add(new int[] {kind, fruit, wage, odds});
        return climbers.size() - 1;
    }

    int set(int climber, int what, int v) {
        int[] least = {0, 1, 0, 0};
        int[] most = {0, 9, 99, 10};
        if (climber < 0 || climber >= climbers.size() || what < 1 || what > 3 || v < least[what] || v > most[what]) {
            return -1;
        }
        int was = climbers.get(climber)[what];
        climbers.get(climber)[what] = v;
        return was;
    }

    int told(int climber, int what) {
        if (climber < 0 || climber >= climbers.size() || what < 0 || what > 4) {
            return -1;
        }
        return what == 4 ? brings(climber) : climbers.get(climber)[what];
    }

    int of(int tree, int what) {
        return tree < 0 || tree >= trees.size() || what < 0 || what > 6 ? -1 : trees.get(tree)[what];
    }

    int price(int fruit, int v) {
        if (fruit < 0 || fruit > 9 || v < -9 || v > 99) {
            return -100001;
        }
        int was = prices[fruit];
        prices[fruit] = v;
        return was;
    }

    int fence(int tree, int set) {
        if (tree < 0 || tree >= trees.size() || set < 0 || set >> climbers.size() != 0) {
            return -1;
        }
        int[] one = trees.get(tree);
        if (one[NOW] != 5 && (set >> one[NOW]) % 2 == 1) {
            return -2;
        }
        int was = one[FENCE];
        one[FENCE] = set;
        return was;
    }

    int climb(int tree, int climber) {
        if (tree < 0 || tree >= trees.size() || climber < 0 || climber != 5 && climber >= climbers.size()) {
            return -1;
        }
        int[] row = new int[trees.size()];
        for (int t = 0; t < row.length; t++) {
            row[t] = trees.get(t)[NOW];
        }
        row[tree] = climber;
        if (climber != 5 && !isOrders(row)) {
            return -2;
        }
        int was = trees.get(tree)[NOW];
        trees.get(tree)[NOW] = climber;
        return was;
    }

    int type(int letter) {
        if (letter < 32 || letter > 126) {
            return -1;
        }
        if (tape.length() == 60) {
            return -3;
        }
        tape += (char) letter;
        return tape.length();
    }

    int commons() {
        String text = tape;
        tape = "";
        String who = "(?:[" + "abcde".substring(0, climbers.size()) + "f] *)";
        String one = "[PGDS] *" + who + "{0,2}";
        Pattern whole = Pattern.compile(" *" + one + "(?:, *" + one + "){0,5}");
        for (int p = 0; p < text.length(); p++) {
            Matcher m = whole.matcher(text.substring(0, p + 1));
            if (!m.matches() && !m.hitEnd()) {
                return -20 - p;
            }
        }
        if (!whole.matcher(text).matches()) {
            return -20 - text.length();
        }
        trees.clear();
        for (String part : text.replace(" ", "").split(",")) {
            int last = part.length() > 1 ? part.charAt(1) - 'a' : 5;
            int before = part.length() > 2 ? part.charAt(2) - 'a' : 5;
            trees.add(new int[] {"PGDS".indexOf(part.charAt(0)), 5, last, before, 0, 0, 0});
        }
        return trees.size();
    }

    int count(int what) {
        int now = 0;
        for (int[] t : trees) {
            now |= t[NOW] == 5 ? 0 : 1 << t[NOW];
        }
        int[] all = {trees.size(), climbers.size(), years, fell, now};
        return what < 0 || what > 4 ? -1 : all[what];
    }

    private int brings(int climber) {
        if (climber == 5) {
            return 0;
        }
        int[] c = climbers.get(climber);
        return c[0] == 1 || c[0] == 3 ? 10 - c[1] : c[1];
    }

    private static int[] sum(int[] a, int[] b) {
        int[] s = new int[10];
        for (int f = 0; f < 10; f++) {
            s[f] = a[f] + b[f];
        }
        return s;
    }

    private int[] plain(int climber, int fallen) {
        int[] fruits = new int[10];
        fruits[brings(climber)] = fallen == 1 ? 1 : 2;
        return fruits;
    }

    private int[] half(int[] fruits) {
        int[] h = new int[10];
        for (int f = 0; f < 10; f++) {
            h[f] = fruits[f] / 2;
        }
        return h;
    }

    private int[] borne(int[] tree) {
        int[] byLast = plain(tree[LAST], tree[LAST_FELL]);
        int[] byBefore = plain(tree[BEFORE], tree[BEFORE_FELL]);
        switch (tree[KIND]) {
            case 0: return byLast;
            case 1: return sum(half(byLast), half(byBefore));
            case 2: return sum(byLast, byLast);
            default: return byBefore;
        }
    }

    private static int[] later(int[] tree, int climber, int fallen) {
        return new int[] {tree[KIND], 5, climber, tree[LAST], fallen, tree[LAST_FELL], tree[FENCE]};
    }

    private int[] basketOf(List<int[]> some) {
        int[] fruits = new int[10];
        for (int[] t : some) {
            fruits = sum(fruits, borne(t));
        }
        return fruits;
    }

    private int valueOf(int[] fruits) {
        int v = 0;
        for (int f = 0; f < 10; f++) {
            v += fruits[f] * prices[f];
        }
        return v;
    }

    private int[] nextBy(int[] row) {
        List<int[]> some = new ArrayList<>();
        for (int t = 0; t < row.length; t++) {
            some.add(later(trees.get(t), row[t], 0));
        }
        return basketOf(some);
    }

    private int[] rowNow() {
        int[] row = new int[trees.size()];
        for (int t = 0; t < row.length; t++) {
            row[t] = trees.get(t)[NOW];
        }
        return row;
    }

    int bears(int tree, int fruit) {
        return tree < 0 || tree >= trees.size() || fruit < 0 || fruit > 9 ? -1 : borne(trees.get(tree))[fruit];
    }

    int basket(int fruit, int what) {
        if (fruit < 0 || fruit > 9 || what < 0 || what > 1) {
            return -1;
        }
        return (what == 0 ? basketOf(trees) : nextBy(rowNow()))[fruit];
    }

    int value(int what) {
        return what < 0 || what > 1 ? -100001 : valueOf(what == 0 ? basketOf(trees) : nextBy(rowNow()));
    }

    int year() {
        fell = 0;
        for (int t = 0; t < trees.size(); t++) {
            int now = trees.get(t)[NOW];
            int fallen = 0;
            if (now != 5) {
                draw = (draw * 1103515245L + 12345L) % (1L << 31);
                fallen = draw / 65536 % 10 < climbers.get(now)[3] && climbers.get(now)[0] != 3 ? 1 : 0;
            }
            fell += fallen;
            trees.set(t, later(trees.get(t), now, fallen));
        }
        years++;
        return fell;
    }

    int seed(int v) {
        if (v < 0) {
            return -1;
        }
        int was = (int) draw;
        draw = v;
        return was;
    }

    private boolean isOrders(int[] row) {
        for (int t = 0; t < row.length; t++) {
            if (row[t] == 5) {
                continue;
            }
            if (row[t] >= climbers.size() || (trees.get(t)[FENCE] >> row[t]) % 2 == 1) {
                return false;
            }
            for (int u = 0; u < t; u++) {
                if (row[u] == row[t] && climbers.get(row[t])[0] != 2) {
                    return false;
                }
            }
        }
        return true;
    }

    /** All ORDERS, by their rows. */
    private List<int[]> orders() {
        List<int[]> all = new ArrayList<>();
        int n = trees.size();
        for (int digits = 0; digits < (int) Math.pow(6, n); digits++) {
            int[] row = new int[n];
            for (int t = n - 1, d = digits; t >= 0; t--, d /= 6) {
                row[t] = d % 6;
            }
            if (isOrders(row)) {
                all.add(row);
            }
        }
        return all;
    }

    private static int setOf(int[] row) {
        int set = 0;
        for (int c : row) {
            set |= c == 5 ? 0 : 1 << c;
        }
        return set;
    }

    private int wagesOf(int[] row) {
        int sum = 0;
        for (int c = 0; c < climbers.size(); c++) {
            sum += (setOf(row) >> c) % 2 * climbers.get(c)[2];
        }
        return sum;
    }

    private int[] bestRow(List<int[]> all, int allowed, int shut) {
        int[] best = null;
        int most = 0;
        for (int[] row : all) {
            boolean may = (setOf(row) & ~allowed) == 0;
            for (int t = 0; t < row.length; t++) {
                may &= row[t] == 5 || (shut >> t) % 2 == 0;
            }
            if (may) {
                int gain = gainOf(row);
                if (best == null || gain > most) {
                    best = row;
                    most = gain;
                }
            }
        }
        return best;
    }

    private int gainOf(int[] row) {
        return valueOf(nextBy(row)) - wagesOf(row);
    }

    int best(int tree) {
        if (tree < -1 || tree >= trees.size()) {
            return -100001;
        }
        int[] row = bestRow(orders(), 31, 0);
        return tree == -1 ? gainOf(row) : row[tree];
    }

    int worth(int climber) {
        if (climber < 0 || climber >= climbers.size()) {
            return -100001;
        }
        List<int[]> all = orders();
        return gainOf(bestRow(all, 31, 0)) - gainOf(bestRow(all, 31 - (1 << climber), 0));
    }

    int send() {
        int[] row = bestRow(orders(), 31, 0);
        int gain = gainOf(row);
        for (int t = 0; t < row.length; t++) {
            trees.get(t)[NOW] = row[t];
        }
        return gain;
    }

    int game(int set) {
        if (set < 0 || set >> climbers.size() != 0) {
            return -100001;
        }
        return play(set, new int[] {5, 5, 5, 5, 5, 5}, 0, true, 0, new HashMap<>());
    }

    /** Who took which TREE is told by the row; climbed: who climbed; passes: how many ahead of this turn. */
    private int play(int set, int[] row, int climbed, boolean own, int passes, Map<String, Integer> known) {
        int free = 0;
        StringBuilder key = new StringBuilder();
        for (int t = 0; t < trees.size(); t++) {
            free += row[t] == 5 ? 1 : 0;
            key.append(row[t] == 5 ? 'o' : 'x');
        }
        if (free == 0 || passes == 2) {
            return 0;
        }
        key.append(climbed).append(own).append(passes);
        if (known.containsKey(key.toString())) {
            return known.get(key.toString());
        }
        List<Integer> outcomes = new ArrayList<>();
        for (int c = 0; c < climbers.size(); c++) {
            boolean isOwn = (set >> c) % 2 == 1;
            if (isOwn != own || (climbed >> c) % 2 == 1 && climbers.get(c)[0] != 2) {
                continue;
            }
            for (int t = 0; t < trees.size(); t++) {
                if (row[t] == 5 && (trees.get(t)[FENCE] >> c) % 2 == 0) {
                    int[] then = row.clone();
                    then[t] = c;
                    int v = valueOf(borne(later(trees.get(t), c, 0)));
                    outcomes.add((own ? v : -v) + play(set, then, climbed | 1 << c, !own, 0, known));
                }
            }
        }
        int outcome;
        if (outcomes.isEmpty()) {
            outcome = play(set, row, climbed, !own, passes + 1, known);
        } else {
            outcome = outcomes.stream().reduce(own ? Integer::max : Integer::min).get();
        }
        known.put(key.toString(), outcome);
        return outcome;
    }

    int fences(int set, int gain) {
        if (set < 0 || set >> climbers.size() != 0 || gain < -9999 || gain > 9999) {
            return -1;
        }
        List<int[]> all = orders();
        int found = -4;
        for (int shut = 0; shut < 1 << trees.size(); shut++) {
            if (found < 0 || Integer.bitCount(shut) < Integer.bitCount(found)) {
                found = gainOf(bestRow(all, set, shut)) <= gain ? shut : found;
            }
        }
        return found;
    }

    /** Each fall or none of each TREE, times how many of 10 draws it is by. */
    private long[] expected() {
        long upper = 0;
        long lower = 1;
        int n = trees.size();
        for (int t = 0; t < n; t++) {
            lower *= 10;
        }
        for (int falls = 0; falls < 1 << n; falls++) {
            long weight = 1;
            List<int[]> some = new ArrayList<>();
            for (int t = 0; t < n; t++) {
                int now = trees.get(t)[NOW];
                int odds = now == 5 || climbers.get(now)[0] == 3 ? 0 : climbers.get(now)[3];
                int fallen = (falls >> t) % 2;
                weight *= fallen == 1 ? odds : 10 - odds;
                some.add(later(trees.get(t), now, fallen));
            }
            upper += weight * valueOf(basketOf(some));
        }
        long a = Math.abs(upper);
        long b = lower;
        while (a != 0) {
            long rest = b % a;
            b = a;
            a = rest;
        }
        return new long[] {upper / b, lower / b};
    }

    int upper() {
        return (int) expected()[0];
    }

    int lower() {
        return (int) expected()[1];
    }

    int image() {
        kept = new Oracle();
        kept.takeOver(this);
        return 1;
    }

    int restore() {
        if (kept == null) {
            return -4;
        }
        takeOver(kept);
        return 1;
    }

    private static int laneOf(Object row) {
        return row instanceof byte[] ? 0 : row instanceof short[] ? 1 : row instanceof int[] ? 2 : 3;
    }

    /** A refusal below 0, or 0. */
    private int refusal(int sheet, int lane, int i, int n, boolean bad) {
        if (bad || sheet < 0 || sheet > 3 || lane < 0 || lane > 3) {
            return -1;
        }
        Object row = sheets[sheet];
        if (row == null) {
            return -11;
        }
        if (laneOf(row) != lane) {
            return -12;
        }
        return i < 0 || (long) i + n > java.lang.reflect.Array.getLength(row) ? -13 : 0;
    }

    private long[] taken(int sheet, int i, int n) {
        long[] items = new long[n];
        for (int k = 0; k < n; k++) {
            items[k] = java.lang.reflect.Array.getLong(sheets[sheet], i + k);
        }
        return items;
    }

    int hired(int sheet, int lane, int i, int tree) {
        int no = refusal(sheet, lane, i, 10, tree < -1 || tree >= trees.size());
        if (no != 0) {
            return no;
        }
        long[] wanted = taken(sheet, i, 10);
        int[] found = null;
        for (int[] row : orders()) {
            int[] next = nextBy(row);
            boolean enough = true;
            for (int f = 0; f < 10; f++) {
                enough &= next[f] >= wanted[f];
            }
            if (enough && (found == null || wagesOf(row) < wagesOf(found))) {
                found = row;
            }
        }
        return found == null ? -4 : tree == -1 ? wagesOf(found) : found[tree];
    }

    int night(int sheet, int lane, int i, int what) {
        int n = trees.size();
        int no = refusal(sheet, lane, i, n, what < 0 || what > 1);
        if (no != 0) {
            return no;
        }
        long[] known = taken(sheet, i, n);
        int ways = 0;
        int sure = 31;
        for (int[] row : orders()) {
            boolean so = true;
            for (int t = 0; t < n; t++) {
                so &= known[t] < 0 || known[t] <= 9 && borne(later(trees.get(t), row[t], 0))[(int) known[t]] > 0;
            }
            if (so) {
                ways++;
                sure &= setOf(row);
            }
        }
        return what == 0 ? ways : ways == 0 ? -4 : sure;
    }

    int pie(int sheet, int lane, int i, int what) {
        int no = refusal(sheet, lane, i, 10, what < 0 || what > 1);
        if (no != 0) {
            return no;
        }
        long[] wanted = taken(sheet, i, 10);
        int ways = 0;
        int first = -4;
        for (int[] row : orders()) {
            int[] next = nextBy(row);
            boolean just = true;
            for (int f = 0; f < 10; f++) {
                just &= next[f] == Math.max(0, wanted[f]);
            }
            if (just) {
                ways++;
                if (first == -4) {
                    first = 0;
                    for (int c : row) {
                        first = first * 6 + c;
                    }
                }
            }
        }
        return what == 0 ? ways : first;
    }

    private int noRota(int sheet, int lane, int i, int n, boolean bad) {
        int no = refusal(sheet, lane, i, n, bad || n < 1 || n > 8);
        if (no != 0) {
            return no;
        }
        for (long c : taken(sheet, i, n)) {
            if (c < 0 || c != 5 && c >= climbers.size()) {
                return -2;
            }
        }
        return 0;
    }

    /** TREES behind 0, 1 .. 200 YEARS of a ROTA. */
    private List<List<int[]>> live(long[] rota) {
        List<List<int[]>> lived = new ArrayList<>();
        lived.add(deep(trees));
        for (int k = 0; k < 200; k++) {
            List<int[]> then = new ArrayList<>();
            for (int t = 0; t < trees.size(); t++) {
                then.add(later(lived.get(k).get(t), (int) rota[(k + t) % rota.length], 0));
            }
            lived.add(then);
        }
        return lived;
    }

    int earned(int sheet, int lane, int i, int n, int m) {
        int no = noRota(sheet, lane, i, n, m < 0 || m > 200);
        if (no != 0) {
            return no - 100000;
        }
        int sum = 0;
        List<List<int[]>> lived = live(taken(sheet, i, n));
        for (int y = 1; y <= m; y++) {
            sum += valueOf(basketOf(lived.get(y)));
        }
        return sum;
    }

    int again(int sheet, int lane, int i, int n, int what) {
        int no = noRota(sheet, lane, i, n, what < 0 || what > 1);
        if (no != 0) {
            return no;
        }
        List<String> seen = new ArrayList<>();
        List<List<int[]>> lived = live(taken(sheet, i, n));
        for (int y = 0; y <= 200; y++) {
            StringBuilder all = new StringBuilder().append(y % n);
            for (int[] t : lived.get(y)) {
                all.append(Arrays.toString(Arrays.copyOfRange(t, LAST, FENCE)));
            }
            int x = seen.lastIndexOf(all.toString());
            if (x >= 0) {
                return what == 0 ? y : y - x;
            }
            seen.add(all.toString());
        }
        return -4;
    }

    int film(int sheet, int lane, int i) {
        int no = refusal(sheet, lane, i, 10, false);
        if (no != 0) {
            return no;
        }
        for (int f = 0; f < 10; f++) {
            item(sheet, lane, i + f, basketOf(trees)[f]);
        }
        return 10;
    }

    int sheet(int sheet, int lane, int n) {
        if (sheet < 0 || sheet > 3 || lane < 0 || lane > 3 || n > 16) {
            return -1;
        }
        if (n < 0) {
            return -14;
        }
        sheets[sheet] = lane == 0 ? new byte[n] : lane == 1 ? new short[n] : lane == 2 ? new int[n] : new long[n];
        return n;
    }

    int drop(int sheet) {
        if (sheet < 0 || sheet > 3) {
            return -1;
        }
        if (sheets[sheet] == null) {
            return -11;
        }
        int had = java.lang.reflect.Array.getLength(sheets[sheet]);
        sheets[sheet] = null;
        return had;
    }

    int item(int sheet, int lane, int i, long v) {
        int no = refusal(sheet, lane, i, 1, false);
        if (no != 0) {
            return no;
        }
        switch (lane) {
            case 0: ((byte[]) sheets[sheet])[i] = (byte) v; break;
            case 1: ((short[]) sheets[sheet])[i] = (short) v; break;
            case 2: ((int[]) sheets[sheet])[i] = (int) v; break;
            default: ((long[]) sheets[sheet])[i] = v; break;
        }
        return 1;
    }

    int copy(int from, int i, int to, int j, int n) {
        if (from < 0 || from > 3 || to < 0 || to > 3) {
            return -1;
        }
        try {
            System.arraycopy(sheets[from], i, sheets[to], j, n);
        } catch (NullPointerException e) {
            return -11;
        } catch (ArrayStoreException e) {
            return -12;
        } catch (IndexOutOfBoundsException e) {
            return -13;
        }
        return n;
    }
}
