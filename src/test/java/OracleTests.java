import java.util.Random;

/** Runs of drawn calls, each answered by the program and by the oracle. */
public final class OracleTests {
    private static final int RUNS = 800;
    private static final int CALLS = 400;
    private static final Due DUE = new Due();

    private final Random random;
    private ClimbedFruit x = new ClimbedFruit();
    private Oracle y = new Oracle();
    private final int mostTrees;

    private OracleTests(long seed) {
        // Seeds that lie close together draw alike at first.
        random = new Random(seed * 0x9E3779B97F4A7C15L);
        mostTrees = random.nextInt(8) == 0 ? 6 : 1 + random.nextInt(4);
    }

    public static void main(String[] args) {
        for (int run = 0; run < RUNS; run++) {
            OracleTests one = new OracleTests(run);
            one.begin();
            for (int k = 0; k < CALLS; k++) {
                one.call(1 + one.random.nextInt(37), "run " + run + ", call " + k);
            }
        }
        DUE.end("OracleTests");
    }

    private int below(int n) {
        return random.nextInt(n);
    }

    /** Mostly a number of low to high, at times one beside. */
    private int around(int low, int high) {
        int by = below(40);
        if (by == 0) {
            return low - 1;
        }
        if (by == 1) {
            return high + 1;
        }
        if (by == 2) {
            return below(2) == 0 ? Integer.MAX_VALUE : Integer.MIN_VALUE;
        }
        return high < low ? low : low + below(high - low + 1);
    }

    private void begin() {
        int climbers = below(6);
        for (int c = 0; c < climbers; c++) {
            call(4, "begin");
        }
        if (below(4) > 0) {
            call(12, "begin");
        }
    }

    private int aTree() {
        return around(0, y.treeCount() - 1);
    }

    private int aClimber() {
        return around(0, y.climberCount() - 1);
    }

    private int aSet() {
        return around(0, (1 << y.climberCount()) - 1);
    }

    private void is(int promise, String where, String call, int got, int want) {
        DUE.is(promise, where + ": " + call, got, want);
    }

    private void call(int promise, String where) {
        if (promise <= 18) {
            callOfTrees(promise, where);
        } else if (promise <= 27) {
            callOfOrders(promise, where);
        } else {
            callOfSheets(promise, where);
        }
    }

    private void callOfTrees(int promise, String where) {
        int a;
        int b;
        int c;
        int d;
        switch (promise) {
            case 1:
                if (below(60) == 0) {
                    x = new ClimbedFruit();
                    y = new Oracle();
                }
                break;
            case 2:
                a = around(0, 3);
                if (y.treeCount() < mostTrees || a < 0 || a > 3) {
                    is(2, where, "tree", x.tree(a), y.tree(a));
                }
                break;
            case 3:
                a = aTree();
                if (y.treeCount() < mostTrees) {
                    is(3, where, "cutting", x.cutting(a), y.cutting(a));
                }
                break;
            case 4:
                a = around(0, 3);
                b = around(1, 9);
                c = below(3) == 0 ? around(0, 99) : around(0, 9);
                d = around(0, 10);
                is(4, where, "climber", x.climber(a, b, c, d), y.climber(a, b, c, d));
                break;
            case 5:
                a = aClimber();
                b = around(1, 3);
                c = around(0, 12);
                is(5, where, "set", x.set(a, b, c), y.set(a, b, c));
                break;
            case 6:
                a = aClimber();
                b = around(0, 4);
                is(6, where, "told", x.told(a, b), y.told(a, b));
                break;
            case 7:
                a = aTree();
                for (b = -1; b <= 7; b++) {
                    is(7, where, "of", x.of(a, b), y.of(a, b));
                }
                break;
            case 8:
                a = around(0, 9);
                b = below(2) == 0 ? around(-9, 99) : around(-2, 9);
                is(8, where, "price", x.price(a, b), y.price(a, b));
                break;
            case 9:
                a = aTree();
                b = aSet() & aSet();
                is(9, where, "fence", x.fence(a, b), y.fence(a, b));
                break;
            case 10:
                for (int k = 0; k < 3; k++) {
                    a = aTree();
                    b = below(4) == 0 ? 5 : aClimber();
                    is(10, where, "climb", x.climb(a, b), y.climb(a, b));
                }
                break;
            case 11:
                a = around(32, 126);
                is(11, where, "type", x.type(a), y.type(a));
                break;
            case 12:
                callCommons(where);
                break;
            default:
                callOfYears(promise, where);
                break;
        }
    }

    private void callCommons(String where) {
        if (below(3) == 0) {
            is(12, where, "commons", x.commons(), y.commons());
        }
        StringBuilder text = new StringBuilder();
        int n = 1 + below(mostTrees);
        for (int t = 0; t < n; t++) {
            text.append(t > 0 ? "," : "").append("PGDS".charAt(below(4)));
            for (int k = below(3); k > 0; k--) {
                text.append((char) ('a' + (below(4) == 0 || y.climberCount() == 0 ? 5 : below(y.climberCount()))));
            }
        }
        for (int k = below(4); k > 0; k--) {
            text.insert(below(text.length() + 1), ' ');
        }
        if (below(3) == 0) {
            text.insert(below(text.length() + 1), "PGDSabcdefg,,x~".charAt(below(15)));
        }
        if (below(6) == 0) {
            text.deleteCharAt(below(text.length()));
        }
        for (int k = 0; k < text.length(); k++) {
            is(11, where, "type", x.type(text.charAt(k)), y.type(text.charAt(k)));
        }
        is(12, where, "commons of '" + text + "'", x.commons(), y.commons());
    }

    private void callOfYears(int promise, String where) {
        int a;
        int b;
        switch (promise) {
            case 13:
                a = around(0, 4);
                is(13, where, "count", x.count(a), y.count(a));
                break;
            case 14:
                a = aTree();
                for (b = -1; b <= 10; b++) {
                    is(14, where, "bears", x.bears(a, b), y.bears(a, b));
                }
                break;
            case 15:
                a = around(0, 1);
                for (b = -1; b <= 10; b++) {
                    is(15, where, "basket", x.basket(b, a), y.basket(b, a));
                }
                break;
            case 16:
                a = around(0, 1);
                is(16, where, "value", x.value(a), y.value(a));
                break;
            case 17:
                is(17, where, "year", x.year(), y.year());
                break;
            default:
                a = below(4) == 0 ? random.nextInt() : around(0, 100);
                is(18, where, "seed", x.seed(a), y.seed(a));
                break;
        }
    }

    private void callOfOrders(int promise, String where) {
        int a;
        int b;
        switch (promise) {
            case 19:
                for (a = -2; a <= y.treeCount(); a++) {
                    is(19, where, "best", x.best(a), y.best(a));
                }
                break;
            case 20:
                a = aClimber();
                is(20, where, "worth", x.worth(a), y.worth(a));
                break;
            case 21:
                a = aSet();
                is(21, where, "game", x.game(a), y.game(a));
                break;
            case 22:
                a = below(2) == 0 ? (1 << y.climberCount()) - 1 : aSet();
                b = below(20) == 0 ? around(-9999, 9999) : around(-30, Math.max(30, y.best(-1)));
                is(22, where, "fences", x.fences(a, b), y.fences(a, b));
                break;
            case 23:
                is(23, where, "upper", x.upper(), y.upper());
                break;
            case 24:
                is(24, where, "lower", x.lower(), y.lower());
                break;
            case 25:
                if (below(3) == 0) {
                    is(25, where, "send", x.send(), y.send());
                }
                break;
            case 26:
                is(26, where, "image", x.image(), y.image());
                break;
            default:
                is(27, where, "restore", x.restore(), y.restore());
                break;
        }
    }

    /** A SHEET of 10 wants that are near to what some ORDERS bring. */
    private void fillWants(int sheet, int lane, String where) {
        int n = 10 + below(3);
        is(34, where, "sheet", x.sheet(sheet, lane, n), y.sheet(sheet, lane, n));
        boolean few = below(2) == 0;
        for (int f = 0; f < 10; f++) {
            long v = y.basket(f, 1);
            v = few && below(2) == 0 ? 0 : v;
            v = below(8) == 0 ? v - 1 : below(12) == 0 ? v + 1 : below(60) == 0 ? random.nextLong() : v;
            is(36, where, "item", x.item(sheet, lane, f, v), y.item(sheet, lane, f, v));
        }
    }

    private void fillRow(int sheet, int lane, String where) {
        int n = below(17);
        is(34, where, "sheet", x.sheet(sheet, lane, n), y.sheet(sheet, lane, n));
        for (int i = 0; i < n; i++) {
            long v = below(3) == 0 || y.climberCount() == 0 ? 5 : below(y.climberCount());
            v = below(30) == 0 ? below(12) - 1 : below(60) == 0 ? v + (1L << 8 * (1 + below(7))) : v;
            is(36, where, "item", x.item(sheet, lane, i, v), y.item(sheet, lane, i, v));
        }
    }

    private void fillNight(int sheet, int lane, String where) {
        int n = Math.min(16, y.treeCount() + below(3));
        is(34, where, "sheet", x.sheet(sheet, lane, n), y.sheet(sheet, lane, n));
        for (int i = 0; i < n; i++) {
            long v = below(2) == 0 ? -1 : y.climberCount() == 0 || below(4) == 0 ? below(11) : y.told(below(y.climberCount()), 4);
            is(36, where, "item", x.item(sheet, lane, i, v), y.item(sheet, lane, i, v));
        }
    }

    private void callOfSheets(int promise, String where) {
        int s = around(0, 3);
        int lane = around(0, 3);
        int i = below(3) > 0 ? 0 : around(0, 6);
        boolean isFilled = s >= 0 && s <= 3 && lane >= 0 && lane <= 3 && below(4) > 0;
        int a;
        switch (promise) {
            case 28:
                if (isFilled) {
                    fillWants(s, lane, where);
                }
                for (a = -2; a <= y.treeCount(); a++) {
                    is(28, where, "hired", x.hired(s, lane, i, a), y.hired(s, lane, i, a));
                }
                break;
            case 29:
                if (isFilled) {
                    fillNight(s, lane, where);
                }
                for (a = -1; a <= 2; a++) {
                    is(29, where, "night", x.night(s, lane, i, a), y.night(s, lane, i, a));
                }
                break;
            case 30:
                if (isFilled) {
                    fillWants(s, lane, where);
                }
                for (a = -1; a <= 2; a++) {
                    is(30, where, "pie", x.pie(s, lane, i, a), y.pie(s, lane, i, a));
                }
                break;
            case 31:
            case 32:
                callOfRotas(s, lane, i, isFilled, where);
                break;
            case 33:
                is(33, where, "film", x.film(s, lane, i), y.film(s, lane, i));
                break;
            default:
                callOfRows(promise, s, lane, where);
                break;
        }
    }

    private void callOfRotas(int s, int lane, int i, boolean isFilled, String where) {
        if (isFilled) {
            fillRow(s, lane, where);
        }
        int n = around(1, 8);
        int m = around(0, below(4) == 0 ? 200 : 5);
        is(31, where, "earned", x.earned(s, lane, i, n, m), y.earned(s, lane, i, n, m));
        for (int a = -1; a <= 2; a++) {
            is(32, where, "again", x.again(s, lane, i, n, a), y.again(s, lane, i, n, a));
        }
    }

    private void callOfRows(int promise, int s, int lane, String where) {
        int a = around(0, 16);
        switch (promise) {
            case 34:
                is(34, where, "sheet", x.sheet(s, lane, a), y.sheet(s, lane, a));
                break;
            case 35:
                is(35, where, "drop", x.drop(s), y.drop(s));
                break;
            case 36:
                long v = below(2) == 0 ? below(10) : random.nextLong();
                is(36, where, "item", x.item(s, lane, a, v), y.item(s, lane, a, v));
                break;
            default:
                int to = around(0, 3);
                int i = around(0, 6);
                int j = around(0, 6);
                int n = around(0, 8);
                is(37, where, "copy", x.copy(s, i, to, j, n), y.copy(s, i, to, j, n));
                break;
        }
    }
}
