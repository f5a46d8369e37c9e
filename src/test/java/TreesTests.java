/** Promises 1 to 18: trees, climbers, years. */
public final class TreesTests {
    private static final Due DUE = new Due();

    public static void main(String[] args) {
        aNewObject();
        treesAndCuttings();
        climbers();
        pricesAndValues();
        fencesAndClimbing();
        tape();
        texts();
        faults();
        whatTreesBear();
        years();
        drawOfFoxes();
        seeds();
        mostYears();
        DUE.end("TreesTests");
    }

    private static void aNewObject() {
        ClimbedFruit x = new ClimbedFruit();
        for (int what = 0; what <= 4; what++) {
            DUE.is(1, "count(" + what + ")", x.count(what), 0);
        }
        for (int f = 0; f <= 9; f++) {
            DUE.is(1, "basket(" + f + ", 0)", x.basket(f, 0), 0);
            DUE.is(1, "price(" + f + ", 0)", x.price(f, 0), f);
        }
        DUE.is(1, "seed(1)", x.seed(1), 1);
        DUE.is(1, "restore()", x.restore(), ClimbedFruit.NONE);
        DUE.is(1, "of(0, 0)", x.of(0, 0), ClimbedFruit.BAD);
        DUE.is(1, "told(0, 0)", x.told(0, 0), ClimbedFruit.BAD);
        for (int s = 0; s <= 3; s++) {
            DUE.is(1, "drop(" + s + ")", x.drop(s), ClimbedFruit.NULL);
        }
        DUE.is(1, "type('P')", x.type('P'), 1);
    }

    private static void treesAndCuttings() {
        ClimbedFruit x = new ClimbedFruit();
        DUE.is(2, "tree(-1)", x.tree(-1), -1);
        DUE.is(2, "tree(4)", x.tree(4), -1);
        DUE.is(3, "cutting(0)", x.cutting(0), -1);
        for (int k = 0; k <= 3; k++) {
            DUE.is(2, "tree(" + k + ")", x.tree(k), k);
            DUE.is(7, "of(" + k + ", 0)", x.of(k, 0), k);
            DUE.is(2, "now", x.of(k, 1), 5);
            DUE.is(2, "last", x.of(k, 2), 5);
            DUE.is(2, "before", x.of(k, 3), 5);
            DUE.is(2, "last fell", x.of(k, 4), 0);
            DUE.is(2, "before fell", x.of(k, 5), 0);
            DUE.is(2, "fence", x.of(k, 6), 0);
        }
        x.climber(0, 3, 0, 10);
        x.climber(2, 4, 0, 10);
        x.climb(3, 0);
        x.year();
        x.climb(3, 1);
        x.year();
        x.fence(3, 1);
        x.climb(3, 1);
        DUE.is(3, "cutting(4)", x.cutting(4), -1);
        DUE.is(3, "cutting(-1)", x.cutting(-1), -1);
        DUE.is(3, "cutting(3)", x.cutting(3), 4);
        int[] due = {3, 5, 1, 0, 1, 1, 0};
        for (int what = 0; what <= 6; what++) {
            DUE.is(3, "of(4, " + what + ")", x.of(4, what), due[what]);
        }
        DUE.is(7, "of(3, 1)", x.of(3, 1), 1);
        DUE.is(7, "of(3, 6)", x.of(3, 6), 1);
        DUE.is(7, "of(3, 7)", x.of(3, 7), -1);
        DUE.is(7, "of(3, -1)", x.of(3, -1), -1);
        DUE.is(7, "of(-1, 0)", x.of(-1, 0), -1);
        DUE.is(7, "of(5, 0)", x.of(5, 0), -1);
        DUE.is(3, "cutting(0)", x.cutting(0), 5);
        DUE.is(2, "tree(0), full", x.tree(0), -3);
        DUE.is(2, "tree(9), full", x.tree(9), -1);
        DUE.is(3, "cutting(0), full", x.cutting(0), -3);
        DUE.is(3, "cutting(6), full", x.cutting(6), -1);
        DUE.is(13, "count(0)", x.count(0), 6);
    }

    private static void climbers() {
        ClimbedFruit x = new ClimbedFruit();
        int[][] bad = {{-1, 1, 0, 0}, {4, 1, 0, 0}, {0, 0, 0, 0}, {0, 10, 0, 0}, {0, 1, -1, 0}, {0, 1, 100, 0}, {0, 1, 0, -1}, {0, 1, 0, 11}};
        for (int[] b : bad) {
            DUE.is(4, "a bad climber", x.climber(b[0], b[1], b[2], b[3]), -1);
        }
        DUE.is(4, "climber(0, 1, 0, 0)", x.climber(0, 1, 0, 0), 0);
        DUE.is(4, "climber(1, 9, 99, 10)", x.climber(1, 9, 99, 10), 1);
        DUE.is(4, "climber(2, 3, 7, 2)", x.climber(2, 3, 7, 2), 2);
        DUE.is(4, "climber(3, 3, 8, 4)", x.climber(3, 3, 8, 4), 3);
        DUE.is(4, "climber(1, 5, 1, 1)", x.climber(1, 5, 1, 1), 4);
        DUE.is(4, "climber(0, 1, 0, 0), full", x.climber(0, 1, 0, 0), -3);
        DUE.is(4, "climber(0, 0, 0, 0), full", x.climber(0, 0, 0, 0), -1);
        int[][] due = {{0, 1, 0, 0, 1}, {1, 9, 99, 10, 1}, {2, 3, 7, 2, 3}, {3, 3, 8, 4, 7}, {1, 5, 1, 1, 5}};
        for (int c = 0; c < 5; c++) {
            for (int what = 0; what <= 4; what++) {
                DUE.is(6, "told(" + c + ", " + what + ")", x.told(c, what), due[c][what]);
            }
        }
        DUE.is(6, "told(5, 0)", x.told(5, 0), -1);
        DUE.is(6, "told(-1, 0)", x.told(-1, 0), -1);
        DUE.is(6, "told(0, 5)", x.told(0, 5), -1);
        DUE.is(6, "told(0, -1)", x.told(0, -1), -1);
        DUE.is(5, "set(3, 1, 9)", x.set(3, 1, 9), 3);
        DUE.is(5, "set(3, 2, 99)", x.set(3, 2, 99), 8);
        DUE.is(5, "set(3, 3, 10)", x.set(3, 3, 10), 4);
        DUE.is(5, "told(3, 4)", x.told(3, 4), 1);
        DUE.is(5, "told(3, 2)", x.told(3, 2), 99);
        DUE.is(5, "told(3, 3)", x.told(3, 3), 10);
        int[][] wrong = {{0, 0, 1}, {0, 4, 1}, {0, 1, 0}, {0, 1, 10}, {0, 2, -1}, {0, 2, 100}, {0, 3, -1}, {0, 3, 11}, {5, 1, 1}, {-1, 1, 1}};
        for (int[] w : wrong) {
            DUE.is(5, "a bad set", x.set(w[0], w[1], w[2]), -1);
        }
        DUE.is(5, "told(0, 1)", x.told(0, 1), 1);
        DUE.is(13, "count(1)", x.count(1), 5);
        DUE.is(13, "count(5)", x.count(5), -1);
        DUE.is(13, "count(-1)", x.count(-1), -1);
    }

    private static void pricesAndValues() {
        ClimbedFruit x = new ClimbedFruit();
        DUE.is(8, "price(0, -9)", x.price(0, -9), 0);
        DUE.is(8, "price(0, 99)", x.price(0, 99), -9);
        DUE.is(8, "price(0, 7)", x.price(0, 7), 99);
        DUE.is(8, "price(9, 1)", x.price(9, 1), 9);
        DUE.is(8, "price(-1, 0)", x.price(-1, 0), -100001);
        DUE.is(8, "price(10, 0)", x.price(10, 0), -100001);
        DUE.is(8, "price(0, -10)", x.price(0, -10), -100001);
        DUE.is(8, "price(0, 100)", x.price(0, 100), -100001);
        x.climber(0, 9, 0, 0);
        x.tree(0);
        x.tree(2);
        x.climb(1, 0);
        DUE.is(16, "value(0)", x.value(0), 6 * 7);
        DUE.is(16, "value(1)", x.value(1), 2 * 7 + 4 * 1);
        x.price(9, -9);
        DUE.is(16, "value(1)", x.value(1), 2 * 7 - 4 * 9);
        DUE.is(16, "value(-1)", x.value(-1), -100001);
        DUE.is(16, "value(2)", x.value(2), -100001);
        DUE.is(15, "basket(0, 1)", x.basket(0, 1), 2);
        DUE.is(15, "basket(9, 1)", x.basket(9, 1), 4);
        DUE.is(15, "basket(9, 0)", x.basket(9, 0), 0);
        DUE.is(15, "basket(-1, 0)", x.basket(-1, 0), -1);
        DUE.is(15, "basket(10, 0)", x.basket(10, 0), -1);
        DUE.is(15, "basket(0, -1)", x.basket(0, -1), -1);
        DUE.is(15, "basket(0, 2)", x.basket(0, 2), -1);
    }

    private static void fencesAndClimbing() {
        ClimbedFruit x = new ClimbedFruit();
        x.tree(0);
        x.tree(0);
        DUE.is(10, "climb(0, 0), no such climber", x.climb(0, 0), -1);
        DUE.is(10, "climb(0, 5)", x.climb(0, 5), 5);
        x.climber(0, 1, 0, 0);
        x.climber(2, 2, 0, 0);
        DUE.is(9, "fence(0, 4)", x.fence(0, 4), -1);
        DUE.is(9, "fence(0, -1)", x.fence(0, -1), -1);
        DUE.is(9, "fence(2, 0)", x.fence(2, 0), -1);
        DUE.is(9, "fence(-1, 0)", x.fence(-1, 0), -1);
        DUE.is(9, "fence(0, 3)", x.fence(0, 3), 0);
        DUE.is(9, "fence(0, 1)", x.fence(0, 1), 3);
        DUE.is(10, "climb(0, 0), fenced", x.climb(0, 0), -2);
        DUE.is(10, "climb(1, 0)", x.climb(1, 0), 5);
        DUE.is(10, "climb(1, 0), again", x.climb(1, 0), 0);
        DUE.is(9, "fence(0, 0)", x.fence(0, 0), 1);
        DUE.is(10, "climb(0, 0), elsewhere", x.climb(0, 0), -2);
        DUE.is(10, "climb(0, 1)", x.climb(0, 1), 5);
        DUE.is(10, "climb(1, 1), a monk", x.climb(1, 1), 0);
        DUE.is(13, "count(4)", x.count(4), 2);
        DUE.is(9, "fence(1, 2), climbing now", x.fence(1, 2), -2);
        DUE.is(9, "fence(1, 1)", x.fence(1, 1), 0);
        DUE.is(7, "of(1, 6)", x.of(1, 6), 1);
        DUE.is(10, "climb(0, 0)", x.climb(0, 0), 1);
        DUE.is(13, "count(4)", x.count(4), 3);
        DUE.is(10, "climb(0, 5)", x.climb(0, 5), 0);
        DUE.is(10, "climb(2, 5)", x.climb(2, 5), -1);
        DUE.is(10, "climb(-1, 5)", x.climb(-1, 5), -1);
        DUE.is(10, "climb(0, 2)", x.climb(0, 2), -1);
        DUE.is(10, "climb(0, 6)", x.climb(0, 6), -1);
        DUE.is(10, "climb(0, -1)", x.climb(0, -1), -1);
    }

    private static void tape() {
        ClimbedFruit x = new ClimbedFruit();
        DUE.is(11, "type(31)", x.type(31), -1);
        DUE.is(11, "type(127)", x.type(127), -1);
        DUE.is(11, "type(32)", x.type(32), 1);
        DUE.is(11, "type(126)", x.type(126), 2);
        for (int i = 3; i <= 60; i++) {
            DUE.is(11, "letter " + i, x.type('P'), i);
        }
        DUE.is(11, "type('P'), full", x.type('P'), -3);
        DUE.is(11, "type(0), full", x.type(0), -1);
        DUE.is(12, "commons()", x.commons(), -21);
        DUE.is(11, "type(32), empty again", x.type(32), 1);
    }

    private static void texts() {
        ClimbedFruit x = new ClimbedFruit();
        x.climber(0, 1, 0, 10);
        x.climber(0, 2, 0, 10);
        x.tree(0);
        x.fence(0, 1);
        x.climb(0, 1);
        x.year();
        x.climb(0, 1);
        DUE.is(12, "Gab, P ,S f b,Df", Due.commons(x, "Gab, P ,S f b,Df"), 4);
        int[][] due = {{1, 5, 0, 1, 0, 0, 0}, {0, 5, 5, 5, 0, 0, 0}, {3, 5, 5, 1, 0, 0, 0}, {2, 5, 5, 5, 0, 0, 0}};
        for (int t = 0; t < 4; t++) {
            for (int what = 0; what <= 6; what++) {
                DUE.is(12, "of(" + t + ", " + what + ")", x.of(t, what), due[t][what]);
            }
        }
        DUE.is(12, "count(0)", x.count(0), 4);
        DUE.is(12, "count(2) stays", x.count(2), 1);
        DUE.is(12, "count(3) stays", x.count(3), 1);
        DUE.is(12, "P,P,P,P,P,P ", Due.commons(x, "P,P,P,P,P,P "), 6);
        DUE.is(12, "S", Due.commons(x, "  S"), 1);
        DUE.is(12, "tree(0)", x.tree(0), 1);
    }

    private static void faults() {
        ClimbedFruit x = new ClimbedFruit();
        x.climber(0, 1, 0, 10);
        x.tree(2);
        String[] texts = {"", "   ", "p", "  a", "P,", "P, ", "P,,", "P b", "Pa  ff", "Paa  a", "P P", "P,P,P,P,P,P,P", "P,P,P,P,P,P ;", "PaG", ",P", "Pg", "P~"};
        int[] due = {-20, -23, -20, -22, -22, -23, -22, -22, -25, -25, -22, -31, -32, -22, -20, -21, -21};
        for (int i = 0; i < texts.length; i++) {
            DUE.is(12, "'" + texts[i] + "'", Due.commons(x, texts[i]), due[i]);
            DUE.is(12, "count(0) stays", x.count(0), 1);
            DUE.is(12, "of(0, 0) stays", x.of(0, 0), 2);
        }
    }

    private static void whatTreesBear() {
        ClimbedFruit x = new ClimbedFruit();
        x.climber(0, 3, 0, 10);
        x.climber(1, 4, 0, 10);
        x.climber(2, 7, 0, 0);
        Due.commons(x, "Pab,Gab,Dab,Sab,Gaa");
        int[][] due = {{3, 2, 6, 0}, {3, 1, 6, 1}, {3, 4, 6, 0}, {3, 0, 6, 2}, {3, 2, 6, 0}};
        for (int t = 0; t < 5; t++) {
            DUE.is(14, "bears(" + t + ", 3)", x.bears(t, due[t][0]), due[t][1]);
            DUE.is(14, "bears(" + t + ", 6)", x.bears(t, due[t][2]), due[t][3]);
            DUE.is(14, "bears(" + t + ", 0)", x.bears(t, 0), 0);
        }
        DUE.is(15, "basket(3, 0)", x.basket(3, 0), 9);
        DUE.is(15, "basket(6, 0)", x.basket(6, 0), 3);
        DUE.is(15, "basket(3, 1)", x.basket(3, 1), 1 + 2 + 1);
        DUE.is(15, "basket(6, 1)", x.basket(6, 1), 0);
        DUE.is(15, "basket(0, 1)", x.basket(0, 1), 2 + 1 + 4 + 1);
        DUE.is(14, "bears(-1, 0)", x.bears(-1, 0), -1);
        DUE.is(14, "bears(5, 0)", x.bears(5, 0), -1);
        DUE.is(14, "bears(0, -1)", x.bears(0, -1), -1);
        DUE.is(14, "bears(0, 10)", x.bears(0, 10), -1);
        x.set(0, 1, 5);
        DUE.is(14, "bears(0, 5), what LAST brings now", x.bears(0, 5), 2);
        fallenBear();
    }

    /** One who FELL brings 1 in place of 2, half of which is none. */
    private static void fallenBear() {
        for (int kind = 0; kind <= 3; kind++) {
            ClimbedFruit x = new ClimbedFruit();
            x.climber(0, 3, 0, 10);
            x.climber(0, 4, 0, 0);
            x.tree(kind);
            x.climb(0, 0);
            DUE.is(17, "year()", x.year(), 1);
            int[] ofLast = {1, 0, 2, 0};
            int[] ofBefore = {0, 0, 0, 1};
            DUE.is(14, "bears(0, 3), LAST fell, kind " + kind, x.bears(0, 3), ofLast[kind]);
            DUE.is(15, "basket(3, 1), LAST fell, kind " + kind, x.basket(3, 1), ofBefore[kind]);
            x.climb(0, 1);
            x.year();
            DUE.is(14, "bears(0, 3), BEFORE fell, kind " + kind, x.bears(0, 3), ofBefore[kind]);
            DUE.is(7, "of(0, 5)", x.of(0, 5), 1);
            DUE.is(7, "of(0, 4)", x.of(0, 4), 0);
        }
    }

    /** THE DRAW is the well-known 16838, 5758, 10113, 17515, 31051, 5627, 23010, .. from 1 on. */
    private static void years() {
        int[] drawn = {8, 8, 3, 5, 1, 7, 0};
        for (int odds = 0; odds <= 10; odds++) {
            ClimbedFruit x = new ClimbedFruit();
            x.climber(0, 3, 0, odds);
            x.tree(0);
            for (int y = 0; y < drawn.length; y++) {
                x.climb(0, 0);
                int fell = drawn[y] < odds ? 1 : 0;
                DUE.is(17, "year() " + y + " with odds " + odds, x.year(), fell);
                DUE.is(13, "count(3)", x.count(3), fell);
                DUE.is(13, "count(2)", x.count(2), y + 1);
                DUE.is(7, "of(0, 4)", x.of(0, 4), fell);
                DUE.is(7, "of(0, 1)", x.of(0, 1), 5);
                DUE.is(7, "of(0, 2)", x.of(0, 2), 0);
            }
            DUE.is(17, "year(), nobody", x.year(), 0);
            DUE.is(7, "of(0, 2)", x.of(0, 2), 5);
            DUE.is(7, "of(0, 3)", x.of(0, 3), 0);
        }
    }

    private static void drawOfFoxes() {
        ClimbedFruit x = new ClimbedFruit();
        x.climber(3, 3, 0, 10);
        x.climber(0, 3, 0, 8);
        x.tree(0);
        x.tree(0);
        x.tree(0);
        x.climb(0, 0);
        x.climb(2, 1);
        DUE.is(17, "year(), drawn 8 8", x.year(), 0);
        x.climb(0, 0);
        x.climb(2, 1);
        DUE.is(17, "year(), drawn 3 5", x.year(), 1);
        DUE.is(7, "of(0, 4), a fox never", x.of(0, 4), 0);
        DUE.is(7, "of(2, 4)", x.of(2, 4), 1);
        DUE.is(18, "seed, four draws on", x.seed(0) / 65536, 17515);
    }

    private static void seeds() {
        ClimbedFruit x = new ClimbedFruit();
        DUE.is(18, "seed(-1)", x.seed(-1), -1);
        DUE.is(18, "seed(0)", x.seed(0), 1);
        DUE.is(18, "seed(max)", x.seed(Integer.MAX_VALUE), 0);
        x.climber(0, 1, 0, 10);
        x.tree(0);
        x.climb(0, 0);
        DUE.is(17, "year()", x.year(), 1);
        long due = (2147483647L * 1103515245L + 12345L) % 2147483648L;
        DUE.is(18, "seed(5)", x.seed(5), due);
        DUE.is(18, "seed(5)", x.seed(5), 5);
        DUE.is(17, "year(), nobody draws", x.year(), 0);
        DUE.is(18, "seed(5)", x.seed(5), 5);
    }

    /** More calls than the document speaks of, for only so the edge of promise 17 is reached. */
    private static void mostYears() {
        ClimbedFruit x = new ClimbedFruit();
        for (int y = 1; y <= 9999; y++) {
            x.year();
        }
        DUE.is(13, "count(2)", x.count(2), 9999);
        DUE.is(17, "year(), full", x.year(), -3);
        DUE.is(13, "count(2)", x.count(2), 9999);
    }
}
