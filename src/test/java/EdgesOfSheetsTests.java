/** The boundary cases of promises 28 to 37; a sentence of the document stands ahead of what is asked for it. */
public final class EdgesOfSheetsTests {
    private static final Due DUE = new Due();

    public static void main(String[] args) {
        promise28();
        promise28None();
        promise28ByLast();
        promise29();
        promise29Trees();
        promise30();
        promise30Tellings();
        promise31();
        promise31Rotas();
        promise32();
        promise32Rotas();
        promise33();
        promise34();
        promise35();
        promise36();
        promise36Bits();
        promise37();
        promise37Itself();
        DUE.end("EdgesOfSheetsTests");
    }

    private static void run(int promise, String... parts) {
        new Edges(DUE, promise).run(String.join("\n", parts));
    }

    /**
     * What all calls that take items of a SHEET refuse: BAD, NULL, CAST, INDEX, each ahead of those behind it.
     * The call is written with SLI for the SHEET, the LANE, the item; n items are taken.
     */
    private static void refusals(int promise, String call, int n, int lower) {
        StringBuilder lines = new StringBuilder(Edges.RICH);
        String[] bad = {"-1, 2, 0", "4, 2, 0", "MIN, 2, 0", "MAX, 2, 0", "0, -1, 0", "0, 4, 0", "0, MIN, 0", "0, MAX, 0",
            "4, 4, 99", "3, 4, 0", "3, -1, -1", "0, 4, 99"};
        String[] missing = {"3, 0, 0", "3, 1, 0", "3, 2, 0", "3, 3, 0", "3, 2, -1", "3, 2, 99", "3, 0, MIN", "3, 3, MAX"};
        String[] unlike = {"0, 0, 0", "0, 1, 0", "0, 3, 0", "1, 1, 0", "1, 2, 0", "1, 3, 0", "0, 3, -1", "0, 1, 99", "1, 2, MAX"};
        String[] outside = {"0, 2, -1", "0, 2, " + (12 - n + 1), "0, 2, 12", "0, 2, 99", "0, 2, MIN", "0, 2, MAX", "1, 0, -1", "1, 0, 4"};
        addRefusals(lines, call, bad, ClimbedFruit.BAD - lower);
        addRefusals(lines, call, missing, ClimbedFruit.NULL - lower);
        addRefusals(lines, call, unlike, ClimbedFruit.CAST - lower);
        addRefusals(lines, call, outside, ClimbedFruit.INDEX - lower);
        run(promise, lines.toString());
    }

    private static void addRefusals(StringBuilder lines, String call, String[] places, int due) {
        for (String place : places) {
            lines.append(call.replace("SLI", place)).append(" ! ").append(due).append('\n');
        }
    }

    private static void promise28() {
        refusals(28, "hired(SLI, -1)", 10, 0);
        refusals(28, "hired(SLI, 4)", 10, 0);
        run(28, Edges.RICH, """
            # BAD: WAGES (-1), or a TREE that there is; ahead of NULL, CAST, INDEX.
            hired(0, 2, 0, -2) ! BAD
            hired(0, 2, 0, 5) ! BAD
            hired(0, 2, 0, 6) ! BAD
            hired(0, 2, 0, MIN) ! BAD
            hired(0, 2, 0, MAX) ! BAD
            hired(3, 2, 0, 5) ! BAD
            hired(0, 3, 0, -2) ! BAD
            hired(0, 2, 99, 5) ! BAD
            # INDEX is ahead of NONE: a SHEET of two items, of four.
            hired(2, 2, 0, -1) ! INDEX
            hired(1, 0, 0, -1) ! INDEX
            """);
        run(28, """
            # Ten items from i on: 10 of 10, the last 10 of 16, none of 9.
            sheet(0, 0, 10)
            hired(0, 0, 0, -1) ! 0
            hired(0, 0, 1, -1) ! INDEX
            sheet(0, 0, 16)
            hired(0, 0, 6, -1) ! 0
            hired(0, 0, 7, -1) ! INDEX
            sheet(0, 0, 9)
            hired(0, 0, 0, -1) ! INDEX
            hired(0, 0, -1, -1) ! INDEX
            sheet(0, 0, 0)
            hired(0, 0, 0, -1) ! INDEX
            # No TREE: there is none to ask for.
            hired(0, 0, 0, 0) ! BAD
            """);
    }

    private static void promise28None() {
        run(28, """
            # No TREE: nothing wanted is met for nothing; one of any FRUIT by none.
            fill(0, 0, 0, 0, 0, 0, 0, 0, 0, 0, 0, 0)
            hired(0, 0, 0, -1) ! 0
            item(0, 0, 0, 1)
            hired(0, 0, 0, -1) ! NONE
            # TREES, but nobody: STONES.
            text(P,D)
            hired(0, 0, 0, -1) ! 0
            hired(0, 0, 0, 0) ! 5
            hired(0, 0, 0, 1) ! 5
            item(0, 0, 0, 6)
            hired(0, 0, 0, -1) ! 0
            item(0, 0, 0, 7)
            hired(0, 0, 0, -1) ! NONE
            hired(0, 0, 0, 0) ! NONE
            hired(0, 0, 0, 1) ! NONE
            hired(0, 0, 0, 2) ! BAD
            """);
        run(28, """
            # Below 0: as 0, by each LANE down to the least number.
            climber(0, 9, 7, 0)
            text(P,D)
            fill(0, 0, -128, -1, -128, -1, -2, -3, -128, -1, -128, 4)
            fill(1, 1, -32768, -1, 0, 0, 0, 0, 0, 0, 0, 4)
            fill(2, 2, MIN, MIN, MIN, MIN, MIN, MIN, MIN, MIN, MIN, 4)
            fill(3, 3, LMIN, LMIN, LMIN, LMIN, LMIN, LMIN, LMIN, LMIN, LMIN, 4)
            hired(0, 0, 0, -1) ! 7
            hired(1, 1, 0, 0) ! 5
            hired(2, 2, 0, 1) ! 0
            hired(3, 3, 0, -1) ! 7
            item(3, 3, 9, LMIN)
            hired(3, 3, 0, -1) ! 0
            # NONE: one more than there can be, and the most that a LANE holds.
            item(0, 0, 9, 5)
            hired(0, 0, 0, -1) ! NONE
            item(0, 0, 9, 127)
            hired(0, 0, 0, -1) ! NONE
            item(1, 1, 9, 32767)
            hired(1, 1, 0, -1) ! NONE
            item(2, 2, 9, MAX)
            hired(2, 2, 0, -1) ! NONE
            item(3, 3, 9, LMAX)
            hired(3, 3, 0, -1) ! NONE
            item(3, 3, 9, 4294967296)
            hired(3, 3, 0, 1) ! NONE
            item(3, 3, 9, 4294967300)
            hired(3, 3, 0, 1) ! NONE
            """);
        run(28, """
            # No fewer than wanted: just so many will do. Each who climbs once, a MONK in six TREES, too.
            climber(2, 9, 99, 10)
            text(D,D,D,D,D,D)
            fill(0, 2, 0, 0, 0, 0, 0, 0, 0, 0, 0, 24)
            hired(0, 2, 0, -1) ! 99
            hired(0, 2, 0, 5) ! 0
            item(0, 2, 9, 25)
            hired(0, 2, 0, -1) ! NONE
            # Of like ones the first as a row: the MONK climbs wherever that costs no more.
            item(0, 2, 9, 1)
            hired(0, 2, 0, 0) ! 0
            hired(0, 2, 0, 5) ! 0
            item(0, 2, 0, 20)
            hired(0, 2, 0, 0) ! 0
            hired(0, 2, 0, 1) ! 5
            hired(0, 2, 0, 5) ! 5
            item(0, 2, 0, 21)
            hired(0, 2, 0, 5) ! NONE
            # A FENCE that shuts out who would be needed.
            item(0, 2, 0, 0)
            item(0, 2, 9, 21)
            hired(0, 2, 0, -1) ! 99
            fence(5, 1)
            hired(0, 2, 0, -1) ! NONE
            """);
    }

    /** What LAST brings to next YEAR counts; what was asked ahead, of more TREES, does not. */
    private static void promise28ByLast() {
        run(28, """
            climber(0, 1, 0, 0)
            climber(0, 2, 0, 0)
            text(Ga)
            # One of 1 is there already, though none is wanted: it is not one of 2.
            fill(0, 0, 0, 0, 2, 0, 0, 0, 0, 0, 0, 0)
            hired(0, 0, 0, -1) ! NONE
            fill(0, 0, 0, 1, 1, 0, 0, 0, 0, 0, 0, 0)
            hired(0, 0, 0, 0) ! 1
            fill(0, 0, 0, 2, 0, 0, 0, 0, 0, 0, 0, 0)
            hired(0, 0, 0, 0) ! 0
            fill(0, 0, 0, 3, 0, 0, 0, 0, 0, 0, 0, 0)
            hired(0, 0, 0, 0) ! NONE
            """);
        run(28, """
            climber(2, 1, 9, 0)
            text(D,D,D,D,D,D)
            fill(0, 0, 0, 24, 0, 0, 0, 0, 0, 0, 0, 0)
            hired(0, 0, 0, -1) ! 9
            text(P)
            item(0, 0, 1, 3)
            hired(0, 0, 0, -1) ! NONE
            item(0, 0, 1, 2)
            hired(0, 0, 0, -1) ! 9
            """);
    }

    private static void promise29() {
        refusals(29, "night(SLI, 0)", 5, 0);
        refusals(29, "night(SLI, 1)", 5, 0);
        run(29, Edges.RICH, """
            # BAD: how many (0), SURE (1); ahead of NULL, CAST, INDEX.
            night(0, 2, 0, -1) ! BAD
            night(0, 2, 0, 2) ! BAD
            night(0, 2, 0, MIN) ! BAD
            night(0, 2, 0, MAX) ! BAD
            night(3, 2, 0, 2) ! BAD
            night(0, 3, 0, -1) ! BAD
            night(0, 2, 99, 2) ! BAD
            # INDEX: a SHEET of four items, of two, for five TREES.
            night(1, 0, 0, 0) ! INDEX
            night(2, 2, 0, 1) ! INDEX
            """);
        run(29, """
            # No TREE: nothing is told, one way; but there is to be a SHEET, and i within it.
            night(0, 0, 0, 0) ! NULL
            sheet(0, 0, 0)
            night(0, 0, 0, 0) ! 1
            night(0, 0, 0, 1) ! 0
            night(0, 0, 1, 0) ! INDEX
            night(0, 0, -1, 0) ! INDEX
            night(0, 1, 0, 0) ! CAST
            sheet(0, 0, 16)
            night(0, 0, 16, 0) ! 1
            night(0, 0, 17, 0) ! INDEX
            """);
    }

    private static void promise29Trees() {
        run(29, """
            # A FRUIT for each TREE: as many items as there are TREES.
            text(P,P,P,P,P,P)
            sheet(0, 0, 6)
            night(0, 0, 0, 0) ! 1
            night(0, 0, 1, 0) ! INDEX
            sheet(0, 0, 16)
            night(0, 0, 10, 0) ! 1
            night(0, 0, 11, 0) ! INDEX
            sheet(0, 0, 5)
            night(0, 0, 0, 0) ! INDEX
            text(P,P,P,P,P)
            night(0, 0, 0, 0) ! 1
            """);
        run(29, """
            # Below 0: nothing is known. By each LANE down to the least number.
            climber(0, 9, 0, 10)
            text(P)
            fill(0, 0, -1, -128)
            fill(1, 1, -1, -32768)
            fill(2, 2, -1, MIN)
            fill(3, 3, -1, LMIN)
            night(0, 0, 0, 0) ! 2
            night(0, 0, 1, 0) ! 2
            night(1, 1, 1, 0) ! 2
            night(2, 2, 1, 0) ! 2
            night(3, 3, 1, 0) ! 2
            night(3, 3, 1, 1) ! 0
            # STONES are a FRUIT, 9 is the last one; what is none no TREE bears. NONE: there are none (1).
            fill(3, 3, 0, 9, 10, 11, 1, LMAX, 4294967296, 4294967305)
            night(3, 3, 0, 0) ! 1
            night(3, 3, 0, 1) ! 0
            night(3, 3, 1, 0) ! 1
            night(3, 3, 1, 1) ! 1
            night(3, 3, 2, 0) ! 0
            night(3, 3, 2, 1) ! NONE
            night(3, 3, 3, 0) ! 0
            night(3, 3, 4, 0) ! 0
            night(3, 3, 4, 1) ! NONE
            night(3, 3, 5, 0) ! 0
            night(3, 3, 5, 1) ! NONE
            night(3, 3, 6, 0) ! 0
            night(3, 3, 7, 0) ! 0
            """);
        run(29, """
            # SURE: those who climb in all of these; all five, none; a MONK may be in several TREES.
            climber(0, 1, 0, 0)
            climber(0, 2, 0, 0)
            climber(2, 3, 0, 0)
            climber(0, 4, 0, 0)
            climber(0, 5, 0, 0)
            text(P,P,P,P,P,P)
            fill(0, 0, 1, 2, 3, 4, 5, -1)
            night(0, 0, 0, 0) ! 2
            night(0, 0, 0, 1) ! 31
            fill(0, 0, 3, 3, 3, 3, 3, 3)
            night(0, 0, 0, 0) ! 1
            night(0, 0, 0, 1) ! 4
            fill(0, 0, 1, 1, -1, -1, -1, -1)
            night(0, 0, 0, 0) ! 0
            night(0, 0, 0, 1) ! NONE
            # NOW counts for nothing; a FENCE does.
            climb(5, 0)
            fill(0, 0, 1, 0, 0, 0, 0, 0)
            night(0, 0, 0, 0) ! 1
            fence(0, 1)
            night(0, 0, 0, 0) ! 0
            night(0, 0, 0, 1) ! NONE
            """);
        run(29, """
            # If nobody falls: but who FELL already brings half of 1, cut, to a GRAFTED one, and 1 to a SLOW one.
            climber(2, 9, 0, 10)
            text(G,S)
            climb(0, 0)
            climb(1, 0)
            year() = 2
            fill(0, 0, 9, 9)
            night(0, 0, 0, 0) ! 2
            night(0, 0, 0, 1) ! 1
            fill(0, 0, 0, 9)
            night(0, 0, 0, 0) ! 2
            night(0, 0, 0, 1) ! 0
            fill(0, 0, -1, 0)
            night(0, 0, 0, 1) ! NONE
            """);
    }

    private static void promise30() {
        refusals(30, "pie(SLI, 0)", 10, 0);
        refusals(30, "pie(SLI, 1)", 10, 0);
        run(30, Edges.RICH, """
            # BAD: how many ORDERS (0), the first (1); ahead of NULL, CAST, INDEX.
            pie(0, 2, 0, -1) ! BAD
            pie(0, 2, 0, 2) ! BAD
            pie(0, 2, 0, MIN) ! BAD
            pie(0, 2, 0, MAX) ! BAD
            pie(3, 2, 0, 2) ! BAD
            pie(0, 3, 0, -1) ! BAD
            pie(0, 2, 99, 2) ! BAD
            pie(2, 2, 0, 0) ! INDEX
            """);
        run(30, """
            # Ten items from i on. No TREE: just nothing, in one way.
            sheet(0, 0, 10)
            pie(0, 0, 0, 0) ! 1
            pie(0, 0, 0, 1) ! 0
            pie(0, 0, 1, 0) ! INDEX
            sheet(0, 0, 16)
            pie(0, 0, 6, 0) ! 1
            pie(0, 0, 7, 0) ! INDEX
            sheet(0, 0, 9)
            pie(0, 0, 0, 0) ! INDEX
            fill(0, 0, 0, 0, 0, 0, 0, 0, 0, 0, 0, 1)
            pie(0, 0, 0, 0) ! 0
            pie(0, 0, 0, 1) ! NONE
            """);
    }

    private static void promise30Tellings() {
        run(30, """
            # Just so: one more, one fewer is not.
            climber(0, 9, 0, 10)
            text(P)
            fill(0, 0, 0, 0, 0, 0, 0, 0, 0, 0, 0, 2)
            pie(0, 0, 0, 0) ! 1
            pie(0, 0, 0, 1) ! 0
            item(0, 0, 9, 1)
            pie(0, 0, 0, 0) ! 0
            pie(0, 0, 0, 1) ! NONE
            item(0, 0, 9, 3)
            pie(0, 0, 0, 0) ! 0
            item(0, 0, 9, 2)
            item(0, 0, 0, 1)
            pie(0, 0, 0, 0) ! 0
            # Below 0: as 0, by each LANE down to the least number.
            item(0, 0, 0, -128)
            item(0, 0, 1, -1)
            pie(0, 0, 0, 0) ! 1
            fill(1, 1, -32768, -1, -1, -1, -1, -1, -1, -1, -1, 2)
            pie(1, 1, 0, 0) ! 1
            fill(2, 2, MIN, -1, MIN, -1, -1, -1, -1, -1, -1, 2)
            pie(2, 2, 0, 0) ! 1
            fill(3, 3, LMIN, -1, LMIN, -4294967296, -1, -1, -1, -1, -1, 2)
            pie(3, 3, 0, 0) ! 1
            # All below 0 is a PIE of nothing, which these TREES are not.
            item(3, 3, 9, -1)
            pie(3, 3, 0, 0) ! 0
            pie(3, 3, 0, 1) ! NONE
            # Too many for any TREES: the most of a LANE, and what would be 2 in its lowest bits.
            item(0, 0, 9, 127)
            pie(0, 0, 0, 0) ! 0
            item(2, 2, 9, MAX)
            pie(2, 2, 0, 0) ! 0
            item(3, 3, 9, LMAX)
            pie(3, 3, 0, 0) ! 0
            item(3, 3, 9, 4294967298)
            pie(3, 3, 0, 0) ! 0
            """);
        run(30, """
            # Digits of 6, TREE 0 the highest: the least number and the most.
            climber(2, 9, 0, 0)
            text(P,P,P,P,P,P)
            fill(0, 0, 0, 0, 0, 0, 0, 0, 0, 0, 0, 12)
            pie(0, 0, 0, 0) ! 1
            pie(0, 0, 0, 1) ! 0
            fill(0, 0, 12, 0, 0, 0, 0, 0, 0, 0, 0, 0)
            pie(0, 0, 0, 0) ! 1
            pie(0, 0, 0, 1) ! 46655
            fill(0, 0, 2, 0, 0, 0, 0, 0, 0, 0, 0, 10)
            pie(0, 0, 0, 0) ! 6
            pie(0, 0, 0, 1) ! 5
            fence(0, 1)
            pie(0, 0, 0, 0) ! 1
            pie(0, 0, 0, 1) ! 38880
            fence(1, 1)
            pie(0, 0, 0, 0) ! 0
            pie(0, 0, 0, 1) ! NONE
            """);
        run(30, """
            # One fewer than LAST brings already can't be.
            climber(0, 1, 0, 0)
            climber(0, 2, 0, 0)
            text(Ga)
            fill(0, 0, 0, 0, 2, 0, 0, 0, 0, 0, 0, 0)
            pie(0, 0, 0, 0) ! 0
            fill(0, 0, 0, 1, 1, 0, 0, 0, 0, 0, 0, 0)
            pie(0, 0, 0, 0) ! 1
            pie(0, 0, 0, 1) ! 1
            """);
        run(30, """
            # SLOW ones and MONKS alone: all ORDERS, 6 to the 6th, are alike; the most there can be.
            climber(2, 1, 0, 0)
            climber(2, 2, 0, 0)
            climber(2, 3, 0, 0)
            climber(2, 4, 0, 0)
            climber(2, 5, 0, 0)
            text(S,S,S,S,S,S)
            fill(0, 0, 12, 0, 0, 0, 0, 0, 0, 0, 0, 0)
            pie(0, 0, 0, 0) ! 46656
            pie(0, 0, 0, 1) ! 0
            item(0, 0, 0, 11)
            pie(0, 0, 0, 0) ! 0
            """);
    }

    private static void promise31() {
        refusals(31, "earned(SLI, 8, 0)", 8, 100000);
        refusals(31, "earned(SLI, 1, 200)", 1, 100000);
        run(31, Edges.RICH, """
            # A ROTA of n (1 .. 8), behind m YEARS (0 .. 200): BAD, ahead of NULL, CAST, INDEX, NOT.
            earned(0, 2, 0, 0, 1) ! -100001
            earned(0, 2, 0, -1, 1) ! -100001
            earned(0, 2, 0, 9, 1) ! -100001
            earned(0, 2, 0, MIN, 1) ! -100001
            earned(0, 2, 0, MAX, 1) ! -100001
            earned(0, 2, 0, 1, -1) ! -100001
            earned(0, 2, 0, 1, 201) ! -100001
            earned(0, 2, 0, 1, MIN) ! -100001
            earned(0, 2, 0, 1, MAX) ! -100001
            earned(3, 2, 0, 0, 1) ! -100001
            earned(3, 2, 0, 1, 201) ! -100001
            earned(0, 3, 0, 9, 1) ! -100001
            earned(0, 3, 0, 1, -1) ! -100001
            earned(0, 2, 99, 9, 1) ! -100001
            earned(0, 2, 99, 1, 201) ! -100001
            # INDEX: n items from i on.
            earned(0, 2, 4, 8, 0) ! 0
            earned(0, 2, 5, 8, 0) ! -100013
            earned(0, 2, 11, 1, 0) ! 0
            earned(0, 2, 11, 2, 0) ! -100013
            earned(1, 0, 0, 4, 0) ! 0
            earned(1, 0, 0, 5, 0) ! -100013
            # NOT: one is none; also behind 0 YEARS. INDEX is ahead of it.
            item(0, 2, 11, 4)
            earned(0, 2, 11, 1, 0) ! -100002
            earned(0, 2, 10, 2, 0) ! -100002
            earned(0, 2, 4, 8, 200) ! -100002
            earned(0, 2, 3, 8, 0) ! 0
            earned(0, 2, 11, 2, 0) ! -100013
            item(0, 2, 11, -1)
            earned(0, 2, 11, 1, 0) ! -100002
            item(0, 2, 11, 6)
            earned(0, 2, 11, 1, 0) ! -100002
            item(0, 2, 11, MIN)
            earned(0, 2, 11, 1, 0) ! -100002
            item(0, 2, 11, MAX)
            earned(0, 2, 11, 1, 0) ! -100002
            item(0, 2, 11, 5)
            earned(0, 2, 11, 1, 0) ! 0
            """);
        run(31, """
            # With nobody there, nobody alone may be in a ROTA; an int's lowest bits do not make one.
            fill(0, 3, 5, 0, 4, 4294967301, LMIN, LMAX)
            earned(0, 3, 0, 1, 200) ! 0
            earned(0, 3, 1, 1, 0) ! -100002
            earned(0, 3, 2, 1, 0) ! -100002
            earned(0, 3, 3, 1, 0) ! -100002
            earned(0, 3, 4, 1, 0) ! -100002
            earned(0, 3, 5, 1, 0) ! -100002
            climber(0, 1, 0, 0)
            earned(0, 3, 1, 1, 0) ! 0
            sheet(0, 0, 0)
            earned(0, 0, 0, 1, 0) ! -100013
            """);
    }

    private static void promise31Rotas() {
        run(31, """
            # The k-th YEAR and TREE t, left over by n: each TREE begins one place further on, and all come round.
            climber(0, 1, 99, 10)
            climber(0, 2, 99, 10)
            climber(0, 3, 99, 10)
            text(P,P,P,P,P,P)
            price(1, 1)
            price(2, 10)
            price(3, 99)
            fill(0, 0, 0, 1, 2, 5, 5, 5, 5, 5)
            # Behind m YEARS: none is 0; in a ROTA of 3 each is in two TREES; nobody falls, WAGES do not count.
            earned(0, 0, 0, 3, 0) ! 0
            earned(0, 0, 0, 3, 1) ! 440
            earned(0, 0, 0, 3, 200) ! 88000
            # In one of 1 all TREES are one's; in one of 8 TREES 0, 1, 2, then 0 and 1 one place on, then 0 two on.
            earned(0, 0, 1, 1, 1) ! 120
            earned(0, 0, 0, 8, 1) ! 220
            earned(0, 0, 0, 8, 2) ! 438
            earned(0, 0, 0, 8, 3) ! 636
            # Left over by 8: TREE 5 begins anew in the YEAR 3, TREES 4 and 5 in the YEAR 4.
            earned(0, 0, 0, 8, 4) ! 638
            earned(0, 0, 0, 8, 5) ! 660
            """);
        run(31, """
            # Below 0, as refusals that are not 100000 less; a FENCE, several TREES do not matter, nor does NOW.
            climber(0, 1, 0, 10)
            text(G)
            price(1, -1)
            fence(0, 1)
            fill(0, 0, 0)
            earned(0, 0, 0, 1, 1) ! -1
            earned(0, 0, 0, 1, 2) ! -3
            earned(0, 0, 0, 1, 5) ! -9
            earned(0, 0, 0, 1, 6) ! -11
            fence(0, 0)
            climb(0, 0)
            fill(0, 0, 5)
            earned(0, 0, 0, 1, 200) ! 0
            # The least and the most, which is farther off than refusals.
            text(D,D,D,D,D,D)
            price(0, -9)
            earned(0, 0, 0, 1, 200) ! -43200
            price(0, 99)
            earned(0, 0, 0, 1, 200) ! 475200
            """);
        run(31, """
            # Who FELL ahead of the ROTA has fallen: a SLOW one bears 1 by that in the YEAR 1.
            climber(0, 1, 0, 10)
            tree(3)
            climb(0, 0)
            year() = 1
            fill(0, 0, 5, 0)
            earned(0, 0, 0, 1, 1) ! 1
            earned(0, 0, 0, 1, 200) ! 1
            earned(0, 0, 1, 1, 1) ! 1
            earned(0, 0, 1, 1, 2) ! 3
            """);
    }

    private static void promise32() {
        refusals(32, "again(SLI, 8, 0)", 8, 0);
        refusals(32, "again(SLI, 1, 1)", 1, 0);
        run(32, Edges.RICH, """
            # A ROTA of n (1 .. 8); how many YEARS behind (0), ahead (1): BAD, ahead of NULL, CAST, INDEX, NOT.
            again(0, 2, 0, 0, 0) ! BAD
            again(0, 2, 0, -1, 0) ! BAD
            again(0, 2, 0, 9, 0) ! BAD
            again(0, 2, 0, MIN, 0) ! BAD
            again(0, 2, 0, MAX, 0) ! BAD
            again(0, 2, 0, 1, -1) ! BAD
            again(0, 2, 0, 1, 2) ! BAD
            again(0, 2, 0, 1, MIN) ! BAD
            again(0, 2, 0, 1, MAX) ! BAD
            again(3, 2, 0, 9, 0) ! BAD
            again(3, 2, 0, 1, 2) ! BAD
            again(0, 3, 0, 0, 0) ! BAD
            again(0, 2, 99, 1, -1) ! BAD
            # INDEX: n items from i on.
            again(0, 2, 4, 8, 1) ! 8
            again(0, 2, 5, 8, 1) ! INDEX
            again(0, 2, 11, 1, 1) ! 1
            again(0, 2, 11, 2, 1) ! INDEX
            # NOT likewise: one is none. INDEX is ahead of it.
            item(0, 2, 11, 4)
            again(0, 2, 11, 1, 0) ! NOT
            again(0, 2, 4, 8, 1) ! NOT
            again(0, 2, 3, 8, 1) ! 8
            again(0, 2, 11, 2, 0) ! INDEX
            item(0, 2, 11, -1)
            again(0, 2, 11, 1, 0) ! NOT
            item(0, 2, 11, 6)
            again(0, 2, 11, 1, 1) ! NOT
            item(0, 2, 11, MAX)
            again(0, 2, 11, 1, 0) ! NOT
            """);
    }

    private static void promise32Rotas() {
        StringBuilder lines = new StringBuilder("fill(0, 0, 5, 5, 5, 5, 5, 5, 5, 5)\n");
        for (int n = 1; n <= 8; n++) {
            // No TREE: all is alike at once, but the same place of the ROTA comes behind n YEARS.
            lines.append("again(0, 0, 0, " + n + ", 0) ! " + n + "\n");
            lines.append("again(0, 0, 0, " + n + ", 1) ! " + n + "\n");
        }
        run(32, lines.toString());
        run(32, """
            # The most there can be: behind 10 YEARS, 8 ahead: LAST and BEFORE are those of the ROTA from 2 on.
            climber(0, 1, 0, 0)
            climber(0, 2, 0, 0)
            tree(0)
            fill(0, 0, 0, 1, 1, 1, 1, 1, 1, 0)
            again(0, 0, 0, 8, 0) ! 10
            again(0, 0, 0, 8, 1) ! 8
            # LAST is as it will be, BEFORE is not; both are.
            text(Pa)
            again(0, 0, 0, 8, 0) ! 9
            again(0, 0, 0, 8, 1) ! 8
            text(Pab)
            again(0, 0, 0, 8, 0) ! 8
            again(0, 0, 0, 8, 1) ! 8
            # In all TREES: the second one begins one place further on.
            text(Pab,P)
            again(0, 0, 0, 8, 0) ! 10
            text(Pab,Pa)
            again(0, 0, 0, 8, 0) ! 9
            text(Pab,Paa)
            again(0, 0, 0, 8, 0) ! 8
            # NOW, FENCES count for nothing.
            climb(0, 0)
            fence(1, 3)
            again(0, 0, 0, 8, 0) ! 8
            """);
        run(32, """
            # Who FELL counts, of LAST, of BEFORE.
            climber(0, 1, 0, 10)
            text(Paa)
            fill(0, 0, 0)
            again(0, 0, 0, 1, 0) ! 1
            again(0, 0, 0, 1, 1) ! 1
            climb(0, 0)
            year() = 1
            again(0, 0, 0, 1, 0) ! 3
            again(0, 0, 0, 1, 1) ! 1
            set(0, 3, 0)
            climb(0, 0)
            year() = 0
            again(0, 0, 0, 1, 0) ! 2
            again(0, 0, 0, 1, 1) ! 1
            climb(0, 0)
            year() = 0
            again(0, 0, 0, 1, 0) ! 1
            """);
        run(32, """
            # Other CLIMBERS are others, though they bring the same.
            climber(0, 1, 0, 0)
            climber(0, 1, 0, 0)
            text(Pbb)
            fill(0, 0, 0, 1)
            again(0, 0, 0, 1, 0) ! 3
            again(0, 0, 1, 1, 0) ! 1
            """);
    }

    private static void promise33() {
        refusals(33, "film(SLI)", 10, 0);
        run(33, Edges.RICH, """
            # INDEX changes nothing: not even those items that are there.
            film(0, 2, 3) ! INDEX
            film(1, 0, 0) ! INDEX
            film(2, 2, 0) ! INDEX
            film(0, 2, 2) = 10
            # Those ahead of i are as they were.
            earned(0, 2, 0, 2, 0) = 0
            item(0, 2, 0, 4)
            earned(0, 2, 0, 1, 0) = -100002
            """);
        run(33, """
            # Ten items from i on: 10 of 10, the last 10 of 16, none of 9.
            climber(0, 9, 0, 0)
            text(Da,P)
            fill(0, 0, 5, 5, 5, 5, 5, 5, 5, 5, 5, 5, 5, 5, 5, 5, 5, 5)
            film(0, 0, 7) ! INDEX
            film(0, 0, -1) ! INDEX
            film(0, 0, 6) = 10
            text(D,Pa)
            climb(1, 0)
            # 2 STONES, 4 of FRUIT 9: by 0 in the DOUBLE, nobody in the other.
            pie(0, 0, 6, 0) = 1
            pie(0, 0, 6, 1) = 5
            earned(0, 0, 5, 1, 0) = 0
            earned(0, 0, 6, 1, 0) = -100002
            sheet(1, 3, 10)
            film(1, 3, 1) ! INDEX
            film(1, 3, 0) = 10
            sheet(1, 3, 9)
            film(1, 3, 0) ! INDEX
            sheet(1, 3, 0)
            film(1, 3, 0) ! INDEX
            """);
        run(33, """
            # No TREE: ten times nothing, in place of what was there; the BASKET, not NEXT.
            fill(0, 1, 7, 7, 7, 7, 7, 7, 7, 7, 7, 7)
            pie(0, 1, 0, 0) = 0
            film(0, 1, 0) = 10
            pie(0, 1, 0, 0) = 1
            climber(2, 9, 0, 0)
            text(Da,Da,Da,Da,Da,Da)
            film(0, 1, 0) = 10
            pie(0, 1, 0, 0) = 1
            pie(0, 1, 0, 1) = 0
            """);
    }

    private static void promise34() {
        run(34, Edges.RICH, """
            # SHEETS 0 .. 3, LANES 0 .. 3, 0 to 16 items. BAD: also n above 16.
            sheet(-1, 0, 1) ! BAD
            sheet(4, 0, 1) ! BAD
            sheet(MIN, 0, 1) ! BAD
            sheet(MAX, 0, 1) ! BAD
            sheet(0, -1, 1) ! BAD
            sheet(0, 4, 1) ! BAD
            sheet(0, MIN, 1) ! BAD
            sheet(0, MAX, 1) ! BAD
            sheet(0, 2, 17) ! BAD
            sheet(0, 2, MAX) ! BAD
            sheet(3, 2, 17) ! BAD
            # SIZE: n below 0. BAD is named ahead of it.
            sheet(0, 2, -1) ! SIZE
            sheet(0, 0, -1) ! SIZE
            sheet(0, 2, MIN) ! SIZE
            sheet(3, 2, -1) ! SIZE
            sheet(4, 2, -1) ! BAD
            sheet(-1, 2, -1) ! BAD
            sheet(0, 4, -1) ! BAD
            sheet(0, -1, MIN) ! BAD
            sheet(0, 0, 0) = 0
            sheet(3, 3, 16) = 16
            """);
        run(34, """
            # A new row: of 0, of another LANE, of other items; no item of the old one.
            fill(0, 0, 5, 5, 5)
            earned(0, 0, 0, 3, 0) = 0
            sheet(0, 0, 3) = 3
            earned(0, 0, 0, 1, 0) = -100002
            earned(0, 0, 2, 1, 0) = -100002
            fill(0, 0, 5, 5, 5)
            sheet(0, 1, 2) = 2
            item(0, 0, 0, 5) ! CAST
            item(0, 1, 2, 5) ! INDEX
            earned(0, 1, 1, 1, 0) = -100002
            sheet(0, 3, 0) = 0
            item(0, 3, 0, 5) ! INDEX
            sheet(0, 2, 16) = 16
            item(0, 2, 15, 5) = 1
            item(0, 2, 16, 5) ! INDEX
            # Another SHEET is as it was.
            drop(1) ! NULL
            drop(3) ! NULL
            drop(0) = 16
            """);
    }

    private static void promise35() {
        run(35, Edges.RICH, """
            drop(-1) ! BAD
            drop(4) ! BAD
            drop(MIN) ! BAD
            drop(MAX) ! BAD
            # NULL: it holds nothing, at first or behind a drop.
            drop(3) ! NULL
            drop(0) = 12
            drop(0) ! NULL
            item(0, 2, 0, 5) ! NULL
            item(0, 2, 99, 5) ! NULL
            # Another SHEET is as it was.
            drop(1) = 4
            drop(2) = 2
            # How many items it had: none to 16.
            sheet(0, 0, 0)
            drop(0) = 0
            drop(0) ! NULL
            sheet(3, 3, 16)
            drop(3) = 16
            """);
        run(35, """
            # What is held anew has nothing of what was dropped.
            fill(0, 2, 5, 5)
            drop(0) = 2
            sheet(0, 2, 2)
            earned(0, 2, 0, 1, 0) = -100002
            earned(0, 2, 1, 1, 0) = -100002
            """);
    }

    private static void promise36() {
        refusals(36, "item(SLI, 5)", 1, 0);
        run(36, Edges.RICH, """
            item(0, 2, 12, 4) ! INDEX
            item(0, 2, 11, 4) = 1
            item(0, 2, 0, 4) = 1
            earned(0, 2, 11, 1, 0) = -100002
            earned(0, 2, 0, 1, 0) = -100002
            # One alone.
            earned(0, 2, 1, 8, 0) = 0
            earned(0, 2, 9, 2, 0) = 0
            item(1, 0, 4, 5) ! INDEX
            item(1, 0, 3, 5) = 1
            item(2, 2, 2, 5) ! INDEX
            item(2, 2, 1, 5) = 1
            """);
        run(36, """
            # A row of no items, of one, of 16.
            sheet(0, 0, 0)
            item(0, 0, 0, 5) ! INDEX
            item(0, 0, -1, 5) ! INDEX
            sheet(0, 0, 1)
            item(0, 0, 0, 5) = 1
            item(0, 0, 1, 5) ! INDEX
            sheet(0, 0, 16)
            item(0, 0, 15, 5) = 1
            item(0, 0, 16, 5) ! INDEX
            """);
    }

    /**
     * Its lowest bits: what a NIGHT of one TREE tells of an item. 3 if it is below 0 (all ORDERS), 1 if it is
     * 0, 8 or 9 (nobody, the MONK, the FOX of FRUITS 8, 9), 0 if it is none of these.
     */
    private static void promise36Bits() {
        String[] lanes = {"127 0, 128 3, 255 3, 256 1, 264 1, 265 1, 266 0, -1 3, -128 3, -129 0, -256 1, -248 1, LMIN 1, LMAX 3, MIN 1, MAX 3",
            "32767 0, 32768 3, 65535 3, 65536 1, 65544 1, 65545 1, 65546 0, 255 0, 256 0, 128 0, -32768 3, -32769 0, -65536 1, -65528 1, LMIN 1, LMAX 3, MIN 1, MAX 3",
            "MAX 0, 2147483648 3, 4294967295 3, 4294967296 1, 4294967304 1, 4294967306 0, 65535 0, 65536 0, 32768 0, MIN 3, -2147483649 0, -4294967296 1, LMIN 1, LMAX 3",
            "LMAX 0, LMIN 3, 2147483648 0, 4294967295 0, 4294967296 0, 4294967304 0, MAX 0, MIN 3, -4294967296 3, -1 3, 0 1, 8 1, 9 1, 10 0"};
        for (int lane = 0; lane <= 3; lane++) {
            StringBuilder lines = new StringBuilder("climber(2, 8, 0, 0)\nclimber(3, 1, 0, 0)\ntree(0)\nsheet(0, " + lane + ", 1)\n");
            for (String pair : lanes[lane].split(", ")) {
                String[] parts = pair.split(" ");
                lines.append("item(0, " + lane + ", 0, " + parts[0] + ") = 1\n");
                lines.append("night(0, " + lane + ", 0, 0) = " + parts[1] + "\n");
            }
            run(36, lines.toString());
        }
    }

    private static void promise37() {
        run(37, Edges.RICH, """
            # BAD: SHEETS 0 .. 3; ahead of NULL, CAST, INDEX.
            copy(-1, 0, 0, 0, 1) ! BAD
            copy(4, 0, 0, 0, 1) ! BAD
            copy(MIN, 0, 0, 0, 1) ! BAD
            copy(MAX, 0, 0, 0, 1) ! BAD
            copy(0, 0, -1, 0, 1) ! BAD
            copy(0, 0, 4, 0, 1) ! BAD
            copy(0, 0, MIN, 0, 1) ! BAD
            copy(0, 0, MAX, 0, 1) ! BAD
            copy(3, 0, 4, 0, 1) ! BAD
            copy(4, 0, 3, 0, 1) ! BAD
            copy(0, 99, 4, 99, -1) ! BAD
            # NULL (either); ahead of CAST, INDEX.
            copy(3, 0, 0, 0, 1) ! NULL
            copy(0, 0, 3, 0, 1) ! NULL
            copy(3, 0, 3, 0, 1) ! NULL
            copy(3, 0, 3, 0, 0) ! NULL
            copy(3, -1, 1, 99, -1) ! NULL
            copy(1, 99, 3, -1, -1) ! NULL
            # CAST: of unlike LANES; ahead of INDEX, also for no items.
            copy(0, 0, 1, 0, 1) ! CAST
            copy(1, 0, 0, 0, 1) ! CAST
            copy(0, 0, 1, 0, 0) ! CAST
            copy(0, 99, 1, 0, 1) ! CAST
            copy(0, 0, 1, -1, 1) ! CAST
            copy(0, 0, 1, 0, -1) ! CAST
            # INDEX: from i on, from j on, n items.
            copy(0, -1, 2, 0, 1) ! INDEX
            copy(0, 12, 2, 0, 1) ! INDEX
            copy(0, 11, 2, 0, 2) ! INDEX
            copy(0, MIN, 2, 0, 1) ! INDEX
            copy(0, MAX, 2, 0, 1) ! INDEX
            copy(0, 0, 2, -1, 1) ! INDEX
            copy(0, 0, 2, 2, 1) ! INDEX
            copy(0, 0, 2, 1, 2) ! INDEX
            copy(0, 0, 2, MIN, 1) ! INDEX
            copy(0, 0, 2, MAX, 1) ! INDEX
            copy(0, 0, 2, 0, -1) ! INDEX
            copy(0, 0, 2, 0, 3) ! INDEX
            copy(2, 0, 0, 0, 3) ! INDEX
            copy(0, 0, 2, 0, MIN) ! INDEX
            copy(0, 0, 2, 0, MAX) ! INDEX
            copy(0, MAX, 2, MAX, MAX) ! INDEX
            copy(0, 1, 2, 1, MAX) ! INDEX
            copy(0, 0, 0, 1, 12) ! INDEX
            copy(0, 1, 0, 0, 12) ! INDEX
            # No items: up to the end, not behind it.
            copy(0, 0, 2, 0, 0) ! 0
            copy(0, 12, 2, 2, 0) ! 0
            copy(0, 13, 2, 0, 0) ! INDEX
            copy(0, 0, 2, 3, 0) ! INDEX
            copy(0, -1, 2, 0, 0) ! INDEX
            copy(0, 0, 2, -1, 0) ! INDEX
            # The last ones come to the last place.
            copy(0, 11, 2, 1, 1) = 1
            copy(0, 10, 2, 0, 2) = 2
            """);
        run(37, """
            # A row of no items; all 16.
            sheet(0, 0, 0)
            copy(0, 0, 0, 0, 0) ! 0
            copy(0, 0, 0, 0, 1) ! INDEX
            copy(0, 1, 0, 0, 0) ! INDEX
            fill(1, 3, 5, 5, 5, 5, 5, 5, 5, 5, 5, 5, 5, 5, 5, 5, 5, 5)
            sheet(2, 3, 16)
            copy(1, 0, 2, 0, 17) ! INDEX
            copy(1, 0, 2, 0, 16) = 16
            earned(2, 3, 0, 8, 0) = 0
            earned(2, 3, 8, 8, 0) = 0
            """);
    }

    /** The same SHEET, as if all were taken ahead; items 0 .. 4 are told by what CLIMBERS of FRUITS 1 .. 5 earn. */
    private static void promise37Itself() {
        String five = """
            climber(0, 1, 0, 0)
            climber(0, 2, 0, 0)
            climber(0, 3, 0, 0)
            climber(0, 4, 0, 0)
            climber(0, 5, 0, 0)
            tree(0)
            fill(0, 2, 0, 1, 2, 3, 4)
            """;
        String[][] rows = {{"0, 0, 0, 1, 4", "00123"}, {"0, 1, 0, 0, 4", "12344"}, {"0, 0, 0, 2, 3", "01012"},
            {"0, 2, 0, 0, 3", "23434"}, {"0, 0, 0, 0, 5", "01234"}, {"0, 4, 0, 0, 1", "41234"}, {"0, 0, 0, 4, 1", "01230"},
            {"0, 5, 0, 5, 0", "01234"}};
        for (String[] r : rows) {
            StringBuilder lines = new StringBuilder("copy(" + r[0] + ") = " + r[0].substring(r[0].length() - 1) + "\n");
            for (int i = 0; i < 5; i++) {
                lines.append("earned(0, 2, " + i + ", 1, 1) = " + 2 * (r[1].charAt(i) - '0' + 1) + "\n");
            }
            run(37, five, lines.toString());
        }
        run(37, five, """
            # What comes to another one leaves the first as it is, and is not bound to it.
            sheet(1, 2, 5)
            copy(0, 2, 1, 1, 3) = 3
            earned(1, 2, 0, 1, 1) = 2
            earned(1, 2, 1, 1, 1) = 6
            earned(1, 2, 3, 1, 1) = 10
            earned(1, 2, 4, 1, 1) = 2
            earned(0, 2, 2, 1, 1) = 6
            item(0, 2, 2, 0)
            earned(1, 2, 1, 1, 1) = 6
            item(1, 2, 2, 0)
            earned(0, 2, 3, 1, 1) = 8
            """);
    }
}
