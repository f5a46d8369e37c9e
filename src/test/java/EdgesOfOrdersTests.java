/** The boundary cases of promises 19 to 27; a sentence of the document stands ahead of what is asked for it. */
public final class EdgesOfOrdersTests {
    private static final Due DUE = new Due();

    public static void main(String[] args) {
        promise19();
        promise19LikeOnes();
        promise19Anew();
        promise20();
        promise21();
        promise21Passing();
        promise21Choices();
        promise22();
        promises23And24();
        promises23And24Odds();
        promise25();
        promises26And27();
        promises26And27Again();
        DUE.end("EdgesOfOrdersTests");
    }

    private static void run(int promise, String... parts) {
        new Edges(DUE, promise).run(String.join("\n", parts));
    }

    private static void promise19() {
        run(19, """
            # Nothing there: a GAIN of 0, and no TREE to ask for. BAD less 100000.
            best(-1) ! 0
            best(0) ! -100001
            best(-2) ! -100001
            """);
        run(19, Edges.RICH, """
            best(-2) ! -100001
            best(5) ! -100001
            best(6) ! -100001
            best(MIN) ! -100001
            best(MAX) ! -100001
            # The FOX in the DOUBLE 200, the MONK 16, 8 and 8, by LAST 50, less 3 and 6; for nothing in the SLOW one.
            best(-1) ! 273
            best(0) ! 2
            best(1) ! 2
            best(2) ! 3
            best(3) ! 2
            best(4) ! 2
            """);
        run(19, """
            # TREES, but nobody: GAIN may be below 0, and as BAD is, which is no refusal.
            text(P,G,D,S)
            best(-1) = 0
            best(0) = 5
            best(3) = 5
            best(4) ! -100001
            price(0, -9)
            best(-1) = -90
            best(0) = 5
            text(G)
            price(0, -1)
            climber(0, 1, 1, 0)
            price(1, 1)
            best(-1) = -1
            best(0) = 0
            """);
        run(19, Edges.CROWDED, """
            # LIAR in the DOUBLE 32, FOX 12, MONK 6, 3 and 3, by LAST 8 and 12, less 2, 4 and 3.
            best(-1) ! 67
            best(5) ! 2
            best(6) ! -100001
            # A FENCE that shuts out all leaves nobody.
            fence(0, 31)
            fence(1, 31)
            fence(2, 31)
            fence(3, 31)
            fence(4, 31)
            fence(5, 31)
            best(0) = 5
            best(4) = 5
            best(5) = 5
            # What LAST brings to GRAFTED (2: LIAR brings 8) and SLOW (4: FOX brings 6) ones, and STONES.
            best(-1) = 20
            """);
        run(19, """
            # The WAGE of each who climbs at all, once: one who costs as much as is brought is as good as nobody.
            climber(2, 5, 60, 10)
            text(P,P,P,P,P,P)
            best(-1) = 0
            best(0) = 0
            best(5) = 0
            set(0, 2, 61)
            best(-1) = 0
            best(0) = 5
            best(5) = 5
            set(0, 2, 59)
            best(-1) = 1
            # The most there can be: all by a MONK, all DOUBLE, for nothing.
            set(0, 2, 0)
            price(5, 99)
            text(D,D,D,D,D,D)
            best(-1) = 2376
            """);
    }

    private static void promise19LikeOnes() {
        run(19, """
            # Of like ones the first as a row (nobody is 5): so one who costs and brings nothing climbs.
            climber(0, 5, 0, 0)
            climber(0, 5, 0, 0)
            climber(0, 5, 0, 0)
            price(5, 0)
            text(P,P,P,P)
            best(-1) ! 0
            best(0) ! 0
            best(1) ! 1
            best(2) ! 2
            best(3) ! 5
            fence(0, 1)
            best(0) = 1
            best(1) = 0
            best(2) = 2
            fence(0, 3)
            best(0) = 2
            best(1) = 0
            best(2) = 1
            fence(0, 7)
            best(0) = 5
            best(1) = 0
            best(2) = 1
            best(3) = 2
            """);
        run(19, """
            # NOW counts for nothing: one who climbs another TREE may be in any.
            climber(0, 5, 0, 0)
            text(P,D)
            climb(0, 0)
            best(-1) ! 20
            best(0) ! 5
            best(1) ! 0
            """);
    }

    /** What was asked ahead, of more TREES or of others, is nothing to BEST. */
    private static void promise19Anew() {
        run(19, Edges.CROWDED, """
            best(-1) ! 67
            fill(0, 0, -1, -1, -1, -1, -1, -1)
            night(0, 0, 0, 0) ! 8992
            best(-1) ! 67
            text(P,D)
            night(0, 0, 0, 0) ! 32
            best(-1) ! 38
            best(0) ! 3
            best(1) ! 1
            # The last one of five.
            price(5, 99)
            best(-1) ! 405
            best(0) ! 1
            best(1) ! 4
            """);
        run(19, """
            # One who is a MONK no more, with the IMAGE: another one is in that place.
            image()
            climber(2, 9, 1, 0)
            text(P,P)
            best(-1) ! 35
            restore()
            climber(0, 9, 1, 0)
            text(P,P)
            best(-1) ! 17
            best(0) ! 0
            best(1) ! 5
            game(1) ! 18
            worth(0) ! 17
            """);
    }

    private static void promise20() {
        run(20, Edges.RICH, """
            # BAD less 100000: there is no such CLIMBER; 5 is nobody.
            worth(-1) ! -100001
            worth(4) ! -100001
            worth(5) ! -100001
            worth(MIN) ! -100001
            worth(MAX) ! -100001
            """);
        run(20, """
            # No TREE, or none that lets that one: WORTH 0.
            worth(0) ! -100001
            climber(0, 9, 0, 0)
            worth(0) ! 0
            tree(2)
            worth(0) ! 36
            worth(1) ! -100001
            fence(0, 1)
            worth(0) ! 0
            fence(0, 0)
            # One who is not worth the WAGE is not hired: never below 0.
            set(0, 2, 36)
            worth(0) ! 0
            set(0, 2, 37)
            worth(0) ! 0
            set(0, 2, 35)
            worth(0) ! 1
            # Where another one brings as much, either is worth nothing.
            climber(1, 1, 35, 0)
            worth(0) ! 0
            worth(1) ! 0
            """);
        run(20, Edges.CROWDED, """
            # With 4 in the DOUBLE 396 - 5, the LIAR 16 - 2, the FOX 12 - 4, the MONK 6 - 3, 20 by LAST; without, 67.
            price(5, 99)
            worth(4) ! 369
            worth(5) ! -100001
            """);
    }

    private static void promise21() {
        run(21, Edges.RICH, """
            # BAD less 100000: a set of CLIMBERS.
            game(-1) ! -100001
            game(16) ! -100001
            game(31) ! -100001
            game(32) ! -100001
            game(MIN) ! -100001
            game(MAX) ! -100001
            """);
        run(21, """
            # Nobody, no TREE: it ends at once.
            game(0) ! 0
            game(1) ! -100001
            tree(0)
            game(0) ! 0
            game(1) ! -100001
            climber(0, 1, 0, 0)
            game(0) ! -2
            game(1) ! 2
            game(2) ! -100001
            # What it is may be as BAD is, which is no refusal.
            text(G)
            game(0) ! -1
            game(1) ! 1
            """);
        run(21, """
            # CLIMBERS, but no TREE.
            climber(0, 9, 0, 0)
            climber(2, 9, 0, 0)
            game(0) ! 0
            game(1) ! 0
            game(3) ! 0
            game(4) ! -100001
            """);
        run(21, Edges.CROWDED, """
            game(32) ! -100001
            # All TREES shut to all: both pass, it ends.
            fence(0, 31)
            fence(1, 31)
            fence(2, 31)
            fence(3, 31)
            fence(4, 31)
            fence(5, 31)
            game(0) ! 0
            game(31) ! 0
            game(21) ! 0
            """);
    }

    private static void promise21Passing() {
        run(21, """
            # One who can't, passes: the set's one has climbed; a MONK may have.
            climber(0, 1, 0, 0)
            climber(2, 9, 0, 0)
            text(P,P,P,P,P,P)
            game(1) = -88
            game(2) = 88
            # Passing once does not end it: the set can't at first, the others can, then all are shut to them.
            fence(0, 3)
            fence(1, 3)
            fence(2, 3)
            fence(3, 3)
            fence(4, 1)
            fence(5, 1)
            game(1) = -36
            game(2) = 36
            # All of one village: the other one passes at each turn.
            game(3) = 36
            game(0) = -36
            """);
        run(21, """
            # A village that can send, must, though to pass would be better: -2 for the one, 0 for both.
            climber(0, 1, 0, 0)
            climber(0, 2, 0, 0)
            price(1, -9)
            price(2, 1)
            text(P)
            game(1) = -18
            game(2) = 2
            game(0) = -2
            price(2, -9)
            game(1) = -18
            game(2) = -18
            # All TREES taken, it ends: the others come too late.
            price(1, 1)
            game(1) = 2
            # NOW, WAGES count for nothing.
            climb(0, 1)
            set(0, 2, 99)
            game(1) ! 2
            """);
        run(21, """
            # Of TREES that nobody takes nothing counts, whatever they bear by LAST or STONES.
            climber(0, 3, 0, 0)
            price(0, 50)
            text(Sa,Sa,P)
            game(1) = 6
            fence(0, 1)
            game(1) = 6
            fence(1, 1)
            game(1) = 6
            fence(2, 1)
            game(1) = 0
            """);
    }

    /** The set would have it most, the others least; what comes of drawn sets is as the oracle has it. */
    private static void promise21Choices() {
        run(21, """
            climber(0, 9, 0, 0)
            climber(0, 5, 0, 0)
            climber(0, 8, 0, 0)
            text(P,D)
            # 9 in the DOUBLE, then 8, not 5, in the other: 36 - 16. 8 in the DOUBLE, then 9: 32 - 18.
            game(1) ! 20
            game(6) ! 14
            # 5 in the DOUBLE, then 9 in the other; the DOUBLE left to the others would be 10 - 36.
            game(2) ! 2
            # 9 in the DOUBLE, then 5; 8 in the DOUBLE, then 5.
            game(5) ! 26
            game(4) ! 14
            game(3) ! 20
            """);
        int[] due = {-80, -52, -16, 4, -5, -5, 20, 28, -28, -8, 14, 28, 8, 16, 36, 52,
            -34, -14, 12, 24, 3, 11, 32, 49, 0, 12, 36, 36, 20, 39, 56, 80};
        StringBuilder lines = new StringBuilder();
        for (int set = 0; set < due.length; set++) {
            lines.append("game(" + set + ") = " + due[set] + "\n");
        }
        run(21, Edges.CROWDED, lines.toString());
    }

    private static void promise22() {
        run(22, Edges.RICH, """
            # A set of CLIMBERS; a GAIN of -9999 .. 9999.
            fences(-1, 0) ! BAD
            fences(16, 0) ! BAD
            fences(31, 0) ! BAD
            fences(MIN, 0) ! BAD
            fences(MAX, 0) ! BAD
            fences(15, -10000) ! BAD
            fences(15, 10000) ! BAD
            fences(15, MIN) ! BAD
            fences(15, MAX) ! BAD
            fences(15, 9999) ! 0
            fences(15, -9999) ! NONE
            # BAD is named ahead of NONE.
            fences(16, -9999) ! BAD
            """);
        run(22, """
            # Nobody, no TREE: 0 is no more than 0.
            fences(0, 0) ! 0
            fences(0, 9999) ! 0
            fences(0, -1) ! NONE
            fences(1, 0) ! BAD
            climber(2, 9, 0, 0)
            fences(1, 0) ! 0
            fences(1, -1) ! NONE
            """);
        run(22, """
            # No more than told: just so much will do. None but all six TREES; the least set of like ones.
            climber(2, 9, 0, 0)
            price(9, 99)
            text(D,D,D,D,D,D)
            fences(1, 2376) ! 0
            fences(1, 2375) ! 1
            fences(1, 1980) ! 1
            fences(1, 1979) ! 3
            fences(1, 1584) ! 3
            fences(1, 1583) ! 7
            fences(1, 1188) ! 7
            fences(1, 1187) ! 15
            fences(1, 791) ! 31
            fences(1, 396) ! 31
            fences(1, 395) ! 63
            fences(1, 0) ! 63
            # None, if none will do: GAIN by nobody stays.
            fences(1, -1) ! NONE
            fences(0, 0) ! 0
            fences(0, -1) ! NONE
            price(0, 1)
            fences(1, 23) ! NONE
            fences(1, 24) ! 63
            fences(0, 23) ! NONE
            fences(0, 24) ! 0
            # GAIN below 0.
            price(0, -9)
            fences(0, -216) ! 0
            fences(0, -217) ! NONE
            fences(1, -216) ! 63
            """);
        run(22, """
            # WAGES count: one who is not worth them climbs nothing that would have to be shut.
            climber(0, 9, 18, 0)
            text(P,P,P)
            fences(1, 0) ! 0
            set(0, 2, 17)
            fences(1, 0) ! 7
            # The fewest TREES, then the least set: one of a high number ahead of two of low ones.
            text(P,P,D)
            set(0, 2, 0)
            fences(1, 35) ! 4
            fences(1, 18) ! 4
            fences(1, 17) ! 7
            # Those that are fenced already need not be shut.
            fence(2, 1)
            fences(1, 18) ! 0
            fences(1, 17) ! 3
            """);
    }

    /** Both numbers of a fraction, behind the same run. */
    private static void expect(int upper, int lower, String... parts) {
        String lines = String.join("\n", parts);
        run(23, lines, "upper() ! " + upper);
        run(24, lines, "lower() ! " + lower);
    }

    private static void promises23And24() {
        // 0: 0 of 1. Nothing there; nobody climbs; it comes to 0.
        expect(0, 1);
        expect(0, 1, "text(P,G,D,S)");
        expect(0, 1, "climber(0, 9, 0, 3)", "price(9, 0)", "tree(0)", "climb(0, 0)");
        expect(0, 1, "climber(0, 9, 0, 5)", "climber(0, 2, 0, 0)", "price(9, -4)", "price(2, 3)", "text(P,P)",
            "climb(0, 0)", "climb(1, 1)");
        // Nobody falls who is not there: STONES by their PRICE.
        expect(100, 1, "text(P,G,D,S)", "price(0, 10)");
        // The least and the most.
        String monk = "climber(2, 9, 0, 0)\ntext(D,D,D,D,D,D)\n";
        expect(-216, 1, monk, "price(0, -9)");
        expect(2376, 1, monk, "price(0, 99)");
        // Upper numbers may be below 0, and as BAD is; the lower one never is.
        String grafted = "climber(0, 9, 0, 0)\ntext(G)\nclimb(0, 0)\n";
        expect(-1, 1, grafted, "price(9, -1)");
        expect(-9, 10, grafted, "price(9, -1)", "set(0, 3, 1)");
        expect(-1, 2, grafted, "price(9, -1)", "set(0, 3, 5)");
    }

    private static void promises23And24Odds() {
        // In lowest terms: PLAIN by 1 is 2 less ODDS of 10.
        int[][] due = {{2, 1}, {19, 10}, {9, 5}, {17, 10}, {8, 5}, {3, 2}, {7, 5}, {13, 10}, {6, 5}, {11, 10}, {1, 1}};
        for (int odds = 0; odds <= 10; odds++) {
            expect(due[odds][0], due[odds][1], "climber(0, 1, 0, " + odds + ")", "tree(0)", "climb(0, 0)");
            expect(-due[odds][0], due[odds][1], "climber(0, 1, 0, " + odds + ")", "price(1, -1)", "tree(0)", "climb(0, 0)");
            // A FOX never falls.
            expect(18, 1, "climber(3, 1, 0, " + odds + ")", "tree(0)", "climb(0, 0)");
        }
        // Half of 1 is cut: a GRAFTED one bears nothing by one who falls; a SLOW one has nothing of NOW.
        expect(1, 5, "climber(0, 1, 0, 8)", "tree(1)", "climb(0, 0)");
        expect(0, 1, "climber(0, 1, 0, 10)", "tree(1)", "climb(0, 0)");
        expect(0, 1, "climber(0, 1, 0, 5)", "tree(3)", "climb(0, 0)");
        // Who FELL in the last YEAR has fallen for sure; ODDS of then count for nothing now.
        expect(1, 1, "climber(0, 1, 0, 10)", "tree(3)", "climb(0, 0)", "year()", "set(0, 3, 0)");
        expect(2, 1, "climber(0, 1, 0, 0)", "tree(3)", "climb(0, 0)", "year()", "set(0, 3, 10)");
        // Each TREE of a MONK by itself: ten times 11 / 10, with the DOUBLE as two of them.
        expect(33, 5, "climber(2, 1, 0, 9)", "text(P,P,D,P,P)", "climb(0, 0)", "climb(1, 0)", "climb(2, 0)",
            "climb(3, 0)", "climb(4, 0)");
    }

    private static void promise25() {
        run(25, """
            # Nothing there; TREES, but nobody; nobody whom a FENCE lets.
            send() ! 0
            text(P,D)
            send() ! 0
            price(0, -9)
            send() ! -54
            climber(2, 9, 0, 0)
            fence(0, 1)
            fence(1, 1)
            send() ! -54
            fence(1, 0)
            send() = 18
            of(0, 1) = 5
            of(1, 1) = 0
            """);
        run(25, """
            # In place of who climbs NOW: also where these stand in the way of one another.
            climber(0, 9, 0, 0)
            climber(0, 1, 0, 0)
            climber(0, 2, 99, 0)
            text(P,D,P)
            climb(0, 0)
            climb(1, 1)
            climb(2, 2)
            send() = 38
            of(0, 1) = 1
            of(1, 1) = 0
            of(2, 1) = 5
            count(4) = 3
            # Once more is the same; LAST, YEARS, THE DRAW stay.
            send() ! 38
            of(0, 2) = 5
            count(2) = 0
            seed(1) = 1
            """);
        run(25, Edges.CROWDED, """
            send() = 67
            send() ! 67
            """);
    }

    private static void promises26And27() {
        run(27, """
            # NONE: there is none.
            restore() ! NONE
            tree(0)
            restore() ! NONE
            image() = 1
            restore() ! 1
            """);
        run(27, Edges.CROWDED, """
            restore() ! NONE
            """);
        run(26, """
            # An IMAGE of nothing: all is gone again.
            image() = 1
            climber(0, 1, 0, 10)
            tree(0)
            climb(0, 0)
            year() = 1
            price(5, 50)
            restore() = 1
            count(0) = 0
            count(1) = 0
            count(2) = 0
            count(3) = 0
            price(5, 5) = 5
            seed(1) = 1
            of(0, 0) ! BAD
            told(0, 0) ! BAD
            tree(3) = 0
            of(0, 0) = 3
            of(0, 1) = 5
            of(0, 2) = 5
            of(0, 4) = 0
            """);
        run(26, Edges.CROWDED, """
            # An IMAGE of all that is full.
            fence(5, 31)
            climb(4, 2)
            climb(0, 2)
            image() = 1
            text(P) = 1
            restore() = 1
            count(0) = 6
            count(1) = 5
            count(4) = 4
            of(5, 6) = 31
            of(4, 1) = 2
            of(3, 0) = 3
            of(4, 2) = 4
            tree(0) ! FULL
            climber(0, 1, 0, 0) ! FULL
            """);
    }

    private static void promises26And27Again() {
        run(26, """
            # The later IMAGE takes the place of the former; one may be restored many times, whatever comes between.
            tree(0)
            image() = 1
            tree(1)
            image() = 1
            tree(2)
            restore() = 1
            count(0) = 2
            cutting(0) = 2
            cutting(1) = 3
            restore() = 1
            count(0) = 2
            of(1, 0) = 1
            restore() ! 1
            """);
        run(26, """
            # All but SHEETS, THE TAPE.
            climber(0, 1, 0, 0)
            tree(0)
            sheet(0, 2, 3)
            sheet(1, 2, 3)
            write(P,)
            image() = 1
            write(P)
            drop(0) = 3
            sheet(2, 3, 9)
            item(1, 2, 0, 5)
            restore() = 1
            drop(0) ! NULL
            drop(2) = 9
            earned(1, 2, 0, 1, 1) = 0
            earned(1, 2, 1, 1, 1) = 2
            commons() = 2
            restore() = 1
            count(0) = 1
            # THE TAPE is empty, as commons() left it.
            type(80) = 1
            """);
        run(27, """
            # All is as it was then: LAST, BEFORE, who FELL, FENCES, CLIMBERS, PRICES, THE DRAW, YEARS.
            climber(0, 1, 7, 10)
            climber(2, 2, 8, 0)
            text(Pba,D)
            climb(0, 0)
            year() = 1
            climb(1, 1)
            fence(0, 2)
            price(9, -9)
            image() = 1
            set(0, 1, 9)
            set(0, 2, 9)
            set(0, 3, 9)
            price(9, 9)
            seed(0)
            year() = 0
            year() = 0
            fence(0, 0)
            restore() = 1
            told(0, 0) = 0
            told(0, 1) = 1
            told(0, 2) = 7
            told(0, 3) = 10
            told(1, 0) = 2
            of(0, 2) = 0
            of(0, 3) = 1
            of(0, 4) = 1
            of(0, 5) = 0
            of(0, 6) = 2
            of(1, 1) = 1
            of(1, 0) = 2
            count(2) = 1
            count(3) = 1
            price(9, 0) = -9
            seed(0) = 1103527590
            """);
    }
}
