/** Promises 19 to 27: best orders, games, fences, what is to be expected, images. */
public final class OrdersTests {
    private static final Due DUE = new Due();

    public static void main(String[] args) {
        best();
        bestOfLikeOnes();
        bestOfMonksAndFences();
        worth();
        game();
        gameWithPasses();
        fences();
        expected();
        send();
        images();
        DUE.end("OrdersTests");
    }

    private static void bestIs(ClimbedFruit x, int gain, int... row) {
        DUE.is(19, "best(-1)", x.best(-1), gain);
        for (int t = 0; t < row.length; t++) {
            DUE.is(19, "best(" + t + ")", x.best(t), row[t]);
        }
    }

    private static void best() {
        ClimbedFruit x = new ClimbedFruit();
        bestIs(x, 0);
        DUE.is(19, "best(0)", x.best(0), -100001);
        DUE.is(19, "best(-2)", x.best(-2), -100001);
        x.climber(0, 3, 2, 10);
        x.climber(1, 2, 5, 10);
        x.tree(0);
        x.tree(2);
        // 8 goes to the DOUBLE, 3 to the PLAIN.
        bestIs(x, 4 * 8 - 5 + 2 * 3 - 2, 0, 1);
        x.set(0, 2, 7);
        bestIs(x, 4 * 8 - 5, 5, 1);
        x.set(1, 2, 33);
        bestIs(x, 4 * 3 - 7, 5, 0);
        x.price(0, 20);
        bestIs(x, 6 * 20, 5, 5);
        x.price(0, -9);
        x.price(3, -9);
        x.price(8, -9);
        bestIs(x, -54, 5, 5);
        DUE.is(19, "best(2)", x.best(2), -100001);
    }

    private static void bestOfLikeOnes() {
        ClimbedFruit x = new ClimbedFruit();
        x.climber(0, 5, 10, 0);
        x.climber(1, 5, 10, 0);
        x.tree(0);
        x.tree(0);
        // By each one 2 * 5 - 10 = 0, as by nobody; the first row is that of the lowest numbers.
        bestIs(x, 0, 0, 1);
        x.tree(3);
        x.climber(0, 5, 0, 0);
        bestIs(x, 10, 0, 2, 5);
        x.climber(0, 5, 0, 0);
        x.climber(0, 5, 0, 0);
        // In a SLOW one nobody brings anything: one without WAGE is as good as nobody, and comes first.
        bestIs(x, 20, 2, 3, 4);
    }

    private static void bestOfMonksAndFences() {
        ClimbedFruit x = new ClimbedFruit();
        x.climber(2, 4, 9, 0);
        x.climber(0, 6, 3, 0);
        x.tree(0);
        x.tree(0);
        x.tree(0);
        // A MONK's WAGE is paid once.
        bestIs(x, 2 * (4 + 4 + 6) - 9 - 3, 0, 0, 1);
        x.fence(2, 2);
        bestIs(x, 16, 0, 1, 0);
        x.fence(0, 3);
        bestIs(x, 20 - 12 + 1, 5, 1, 5);
        DUE.is(7, "of(1, 1) stays", x.of(1, 1), 5);
    }

    private static void worth() {
        ClimbedFruit x = new ClimbedFruit();
        DUE.is(20, "worth(0)", x.worth(0), -100001);
        x.climber(0, 3, 2, 10);
        x.climber(1, 2, 5, 10);
        DUE.is(20, "worth(0), no tree", x.worth(0), 0);
        x.tree(2);
        // 32 - 5 by 1, 12 - 2 by 0.
        DUE.is(20, "worth(0)", x.worth(0), 0);
        DUE.is(20, "worth(1)", x.worth(1), 17);
        x.tree(0);
        DUE.is(20, "worth(0)", x.worth(0), 4);
        DUE.is(20, "worth(1)", x.worth(1), 27 + 4 - 10);
        DUE.is(20, "worth(2)", x.worth(2), -100001);
        DUE.is(20, "worth(-1)", x.worth(-1), -100001);
        DUE.is(20, "worth(5)", x.worth(5), -100001);
    }

    private static void game() {
        ClimbedFruit x = new ClimbedFruit();
        DUE.is(21, "game(1)", x.game(1), -100001);
        DUE.is(21, "game(0)", x.game(0), 0);
        x.climber(0, 3, 50, 10);
        x.climber(0, 8, 50, 10);
        DUE.is(21, "game(1), no tree", x.game(1), 0);
        x.tree(0);
        x.tree(2);
        // WAGES count for nothing; the first takes the DOUBLE.
        DUE.is(21, "game(1)", x.game(1), 12 - 16);
        DUE.is(21, "game(2)", x.game(2), 32 - 6);
        DUE.is(21, "game(3)", x.game(3), 32 + 6);
        DUE.is(21, "game(0)", x.game(0), -38);
        DUE.is(21, "game(4)", x.game(4), -100001);
        DUE.is(21, "game(-1)", x.game(-1), -100001);
        x.climb(0, 1);
        DUE.is(21, "game(1), NOW counts for nothing", x.game(1), -4);
        x.price(3, -9);
        x.price(8, -9);
        // One who can send, must: each would leave the DOUBLE to the other.
        DUE.is(21, "game(1)", x.game(1), -18 + 36);
    }

    private static void gameWithPasses() {
        ClimbedFruit x = new ClimbedFruit();
        x.climber(0, 1, 0, 0);
        x.climber(2, 4, 0, 0);
        Due.commons(x, "P,P,P,Ga");
        // The set's one climbs once; the MONK takes all that is left, one TREE a turn.
        DUE.is(21, "game(1)", x.game(1), 2 - 8 - 8 - (4 + 1));
        DUE.is(21, "game(2)", x.game(2), 8 + 8 + (4 + 1) - 2);
        x.fence(0, 3);
        DUE.is(21, "game(1), one tree shut to all", x.game(1), 2 - 8 - 5);
        x.fence(1, 1);
        x.fence(2, 1);
        x.fence(3, 1);
        DUE.is(21, "game(1), the set passes", x.game(1), -8 - 8 - 5);
    }

    private static void fences() {
        ClimbedFruit x = new ClimbedFruit();
        DUE.is(22, "fences(0, 0)", x.fences(0, 0), 0);
        DUE.is(22, "fences(0, -1)", x.fences(0, -1), -4);
        x.climber(2, 5, 3, 0);
        x.climber(0, 9, 1, 0);
        Due.commons(x, "P,P,D");
        // By 0 alone 10 + 10 + 20 - 3 = 37.
        DUE.is(22, "fences(1, 37)", x.fences(1, 37), 0);
        DUE.is(22, "fences(1, 36)", x.fences(1, 36), 1);
        DUE.is(22, "fences(1, 27)", x.fences(1, 27), 1);
        DUE.is(22, "fences(1, 26)", x.fences(1, 26), 4);
        DUE.is(22, "fences(1, 17)", x.fences(1, 17), 4);
        DUE.is(22, "fences(1, 16)", x.fences(1, 16), 5);
        DUE.is(22, "fences(1, 7)", x.fences(1, 7), 5);
        DUE.is(22, "fences(1, 6)", x.fences(1, 6), 7);
        DUE.is(22, "fences(1, 0)", x.fences(1, 0), 7);
        DUE.is(22, "fences(1, -1)", x.fences(1, -1), -4);
        // By 1 alone the DOUBLE for 35, else a PLAIN for 17.
        DUE.is(22, "fences(2, 34)", x.fences(2, 34), 4);
        DUE.is(22, "fences(2, 16)", x.fences(2, 16), 7);
        DUE.is(22, "fences(2, 9999)", x.fences(2, 9999), 0);
        DUE.is(22, "fences(2, -9999)", x.fences(2, -9999), -4);
        DUE.is(22, "fences(2, 10000)", x.fences(2, 10000), -1);
        DUE.is(22, "fences(2, -10000)", x.fences(2, -10000), -1);
        DUE.is(22, "fences(4, 0)", x.fences(4, 0), -1);
        DUE.is(22, "fences(-1, 0)", x.fences(-1, 0), -1);
        x.fence(2, 2);
        DUE.is(22, "fences(2, 34), fenced already", x.fences(2, 34), 0);
        DUE.is(7, "of(0, 6) stays", x.of(0, 6), 0);
    }

    private static void expectedIs(ClimbedFruit x, int upper, int lower) {
        DUE.is(23, "upper()", x.upper(), upper);
        DUE.is(24, "lower()", x.lower(), lower);
    }

    private static void expected() {
        ClimbedFruit x = new ClimbedFruit();
        expectedIs(x, 0, 1);
        x.climber(0, 3, 2, 5);
        x.tree(0);
        expectedIs(x, 0, 1);
        x.climb(0, 0);
        // 3 * (2 - 5/10) = 9/2; by ODDS 1 3 * 19/10; by 4 3 * 16/10.
        expectedIs(x, 9, 2);
        x.set(0, 3, 1);
        expectedIs(x, 57, 10);
        x.set(0, 3, 4);
        expectedIs(x, 24, 5);
        x.set(0, 3, 10);
        expectedIs(x, 3, 1);
        x.price(3, -9);
        x.set(0, 3, 1);
        expectedIs(x, -171, 10);
        expectedByKinds();
    }

    private static void expectedByKinds() {
        int[] upper = {57, 27, 57, 0};
        int[] lower = {10, 10, 5, 1};
        for (int kind = 0; kind <= 3; kind++) {
            ClimbedFruit x = new ClimbedFruit();
            x.climber(0, 3, 0, 1);
            x.climber(3, 7, 0, 10);
            x.tree(kind);
            x.climb(0, 0);
            expectedIs(x, upper[kind], lower[kind]);
            x.climb(0, 1);
            int[] ofFox = {6, 3, 12, 0};
            expectedIs(x, ofFox[kind], 1);
            x.climb(0, 0);
            x.seed(0);
            DUE.is(17, "year(), drawn 0", x.year(), 1);
            int[] ofFallen = {0, 0, 0, 3};
            expectedIs(x, ofFallen[kind], 1);
        }
    }

    private static void send() {
        ClimbedFruit x = new ClimbedFruit();
        DUE.is(25, "send(), no tree", x.send(), 0);
        x.climber(0, 3, 2, 10);
        x.climber(1, 2, 5, 10);
        Due.commons(x, "P,D,S");
        x.climb(0, 1);
        x.climb(2, 0);
        DUE.is(25, "send()", x.send(), 31);
        DUE.is(25, "of(0, 1)", x.of(0, 1), 0);
        DUE.is(25, "of(1, 1)", x.of(1, 1), 1);
        DUE.is(25, "of(2, 1)", x.of(2, 1), 5);
        DUE.is(25, "count(4)", x.count(4), 3);
        DUE.is(25, "value(1)", x.value(1), 38);
    }

    private static void images() {
        ClimbedFruit x = new ClimbedFruit();
        DUE.is(27, "restore()", x.restore(), -4);
        x.climber(0, 3, 2, 10);
        Due.commons(x, "Pa,D");
        x.fence(1, 1);
        x.climb(0, 0);
        x.year();
        x.climb(0, 0);
        Due.write(x, "S,");
        Due.fill(x, 2, 1, 7);
        DUE.is(26, "image()", x.image(), 1);
        int draw = x.seed(99);
        x.climber(0, 4, 0, 0);
        x.set(0, 1, 9);
        x.tree(1);
        x.fence(1, 0);
        x.price(5, 50);
        x.year();
        x.year();
        Due.write(x, "P");
        x.item(2, 1, 0, 8);
        for (int round = 0; round < 2; round++) {
            DUE.is(27, "restore()", x.restore(), 1);
            int[] counts = {2, 1, 1, 1, 1};
            for (int what = 0; what <= 4; what++) {
                DUE.is(27, "count(" + what + ")", x.count(what), counts[what]);
            }
            int[][] due = {{0, 0, 0, 0, 1, 0, 0}, {2, 5, 5, 5, 0, 0, 1}};
            for (int t = 0; t < 2; t++) {
                for (int what = 0; what <= 6; what++) {
                    DUE.is(27, "of(" + t + ", " + what + ")", x.of(t, what), due[t][what]);
                }
            }
            DUE.is(27, "told(0, 1)", x.told(0, 1), 3);
            DUE.is(27, "price(5, 60)", x.price(5, 60), 5);
            DUE.is(27, "seed(3)", x.seed(3), draw);
            x.climb(0, 5);
            x.tree(0);
        }
        DUE.is(26, "SHEETS are not kept", x.copy(2, 0, 2, 0, 1), 1);
        DUE.is(26, "item stays 8", x.earned(2, 1, 0, 1, 0), -100002);
        DUE.is(26, "THE TAPE is not kept", x.commons(), 2);
    }
}
