/** The boundary cases of promises 1 to 18; a sentence of the document stands ahead of what is asked for it. */
public final class EdgesOfTreesTests {
    private static final Due DUE = new Due();

    public static void main(String[] args) {
        promise1();
        promise2();
        promise3();
        promise4();
        promise5();
        promise6();
        promise7();
        promise8();
        promise9();
        promise10();
        promise11();
        promise12();
        promise12Climbers();
        promise12Faults();
        promise13();
        promise14();
        promise15();
        promise16();
        promise17();
        promise17Odds();
        promise18();
        DUE.end("EdgesOfTreesTests");
    }

    private static void run(int promise, String... parts) {
        new Edges(DUE, promise).run(String.join("\n", parts));
    }

    private static void promise1() {
        run(1, """
            # No tree, nobody.
            count(0) ! 0
            count(1) ! 0
            count(2) ! 0
            count(3) ! 0      # 0 at first
            count(4) ! 0
            of(0, 0) ! BAD
            cutting(0) ! BAD
            fence(0, 0) ! BAD
            climb(0, 5) ! BAD
            bears(0, 0) ! BAD
            told(0, 0) ! BAD
            set(0, 1, 1) ! BAD
            basket(0, 0) ! 0
            basket(0, 1) ! 0
            basket(9, 0) ! 0
            value(0) ! 0
            value(1) ! 0
            best(-1) ! 0
            best(0) ! -100001
            worth(0) ! -100001
            game(0) ! 0
            game(1) ! -100001
            fences(0, 0) ! 0
            fences(1, 0) ! BAD
            upper() ! 0
            lower() ! 1
            send() ! 0
            # SHEETS hold nothing at first.
            drop(0) ! NULL
            drop(1) ! NULL
            drop(2) ! NULL
            drop(3) ! NULL
            # There is no IMAGE, nothing on THE TAPE.
            restore() ! NONE
            commons() ! -20
            type(80) = 1
            # A PRICE is its number at first, THE DRAW is 1 at first.
            price(0, 50) = 0
            price(1, 50) = 1
            price(8, 50) = 8
            price(9, 50) = 9
            seed(0) = 1
            year() = 0
            """);
        besideAFullOne();
    }

    /** What one object holds is nothing to another one. */
    private static void besideAFullOne() {
        Calls full = new Calls();
        for (String call : Edges.CROWDED.strip().split("\n")) {
            full.ask(call);
        }
        full.ask("image()");
        full.ask("write(P)");
        Calls fresh = new Calls();
        DUE.is(1, "count(0) of a second object", fresh.ask("count(0)"), 0);
        DUE.is(1, "count(1) of a second object", fresh.ask("count(1)"), 0);
        DUE.is(1, "restore() of a second object", fresh.ask("restore()"), ClimbedFruit.NONE);
        DUE.is(1, "drop(0) of a second object", fresh.ask("drop(0)"), ClimbedFruit.NULL);
        DUE.is(1, "commons() of a second object", fresh.ask("commons()"), -20);
        DUE.is(1, "count(0) of the first one", full.ask("count(0)"), 6);
    }

    private static void promise2() {
        run(2, Edges.RICH, """
            # BAD: KINDS are 0 .. 3.
            tree(-1) ! BAD
            tree(4) ! BAD
            tree(MIN) ! BAD
            tree(MAX) ! BAD
            # TREES 0 .. 5, as they come; nobody each at first.
            tree(3) = 5
            of(5, 0) = 3
            of(5, 1) = 5
            of(5, 2) = 5
            of(5, 3) = 5
            of(5, 4) = 0
            of(5, 5) = 0
            of(5, 6) = 0
            # FULL: 6. BAD is named ahead of it.
            tree(0) ! FULL
            tree(3) ! FULL
            tree(4) ! BAD
            tree(-1) ! BAD
            """);
        run(2, """
            tree(0) = 0
            tree(1) = 1
            tree(2) = 2
            tree(3) = 3
            tree(0) = 4
            tree(0) = 5
            tree(0) ! FULL
            """);
        run(2, Edges.CROWDED, """
            # FULL by a COMMONS; with fewer TREES there is room again, and nothing of an old TREE.
            tree(0) ! FULL
            fence(1, 31)
            climb(2, 2)
            text(P) = 1
            tree(2) = 1
            of(1, 0) = 2
            of(1, 2) = 5
            of(1, 6) = 0
            tree(1) = 2
            of(2, 1) = 5
            of(2, 2) = 5
            """);
        run(2, """
            # An IMAGE of few TREES has room, too.
            image()
            text(P,P,P,P,P,P)
            tree(0) ! FULL
            restore()
            tree(0) = 0
            """);
    }

    private static void promise3() {
        run(3, Edges.RICH, """
            # BAD: there is no such TREE.
            cutting(-1) ! BAD
            cutting(5) ! BAD
            cutting(6) ! BAD
            cutting(MIN) ! BAD
            cutting(MAX) ! BAD
            # As another one is (KIND, LAST, BEFORE, who FELL; nobody NOW, no FENCE).
            of(1, 1) = 2
            of(1, 6) = 8
            cutting(1) = 5
            of(5, 0) = 1
            of(5, 1) = 5
            of(5, 2) = 5
            of(5, 3) = 2
            of(5, 4) = 0
            of(5, 5) = 1
            of(5, 6) = 0
            of(1, 1) = 2
            of(1, 6) = 8
            # FULL: 6. BAD is named ahead of it.
            cutting(0) ! FULL
            cutting(5) ! FULL
            cutting(6) ! BAD
            cutting(-1) ! BAD
            """);
        run(3, """
            climber(0, 1, 0, 10)
            tree(2) = 0
            climb(0, 0)
            year() = 1
            # LAST FELL: a CUTTING of a CUTTING, too, up to the sixth.
            cutting(0) = 1
            cutting(1) = 2
            cutting(2) = 3
            cutting(3) = 4
            cutting(4) = 5
            of(5, 0) = 2
            of(5, 2) = 0
            of(5, 4) = 1
            cutting(5) ! FULL
            """);
    }

    private static void promise4() {
        run(4, Edges.RICH, """
            # KINDS 0 .. 3, FRUIT 1 .. 9, WAGE 0 .. 99, ODDS 0 .. 10.
            climber(-1, 1, 0, 0) ! BAD
            climber(4, 1, 0, 0) ! BAD
            climber(MIN, 1, 0, 0) ! BAD
            climber(MAX, 1, 0, 0) ! BAD
            climber(0, 0, 0, 0) ! BAD
            climber(0, 10, 0, 0) ! BAD
            climber(0, -1, 0, 0) ! BAD
            climber(0, MIN, 0, 0) ! BAD
            climber(0, MAX, 0, 0) ! BAD
            climber(0, 1, -1, 0) ! BAD
            climber(0, 1, 100, 0) ! BAD
            climber(0, 1, MIN, 0) ! BAD
            climber(0, 1, MAX, 0) ! BAD
            climber(0, 1, 0, -1) ! BAD
            climber(0, 1, 0, 11) ! BAD
            climber(0, 1, 0, MIN) ! BAD
            climber(0, 1, 0, MAX) ! BAD
            climber(3, 9, 99, 10) = 4
            # FULL: 5. BAD is named ahead of it.
            climber(0, 1, 0, 0) ! FULL
            climber(3, 9, 99, 10) ! FULL
            climber(4, 1, 0, 0) ! BAD
            climber(0, 10, 0, 0) ! BAD
            climber(0, 1, 100, 0) ! BAD
            climber(0, 1, 0, 11) ! BAD
            told(4, 0) = 3
            told(4, 1) = 9
            told(4, 2) = 99
            told(4, 3) = 10
            """);
        run(4, """
            # CLIMBERS 0 .. 4, as they come.
            climber(0, 1, 0, 0) = 0
            climber(1, 9, 99, 10) = 1
            climber(2, 1, 99, 0) = 2
            climber(3, 9, 0, 10) = 3
            climber(0, 9, 99, 0) = 4
            climber(0, 1, 0, 0) ! FULL
            """);
    }

    private static void promise5() {
        run(5, Edges.RICH, """
            # BAD: there is no such CLIMBER; 5 is nobody.
            set(-1, 1, 1) ! BAD
            set(4, 1, 1) ! BAD
            set(5, 1, 1) ! BAD
            set(MIN, 1, 1) ! BAD
            set(MAX, 1, 1) ! BAD
            # FRUIT (1), WAGE (2), ODDS (3) alone: not the KIND, not what is brought.
            set(0, 0, 1) ! BAD
            set(0, 4, 1) ! BAD
            set(0, -1, 1) ! BAD
            set(0, MIN, 1) ! BAD
            set(0, MAX, 1) ! BAD
            # FRUIT 1 .. 9.
            set(0, 1, 0) ! BAD
            set(0, 1, 10) ! BAD
            set(0, 1, MIN) ! BAD
            set(0, 1, MAX) ! BAD
            set(0, 1, 1) = 3
            set(0, 1, 9) = 1
            set(0, 1, 9) = 9
            # WAGE 0 .. 99.
            set(0, 2, -1) ! BAD
            set(0, 2, 100) ! BAD
            set(0, 2, MIN) ! BAD
            set(0, 2, MAX) ! BAD
            set(0, 2, 0) = 2
            set(0, 2, 99) = 0
            set(0, 2, 99) = 99
            # ODDS 0 .. 10.
            set(0, 3, -1) ! BAD
            set(0, 3, 11) ! BAD
            set(0, 3, MIN) ! BAD
            set(0, 3, MAX) ! BAD
            set(0, 3, 0) = 10
            set(0, 3, 10) = 0
            set(0, 3, 10) = 10
            # One alone: the others are as they were.
            told(1, 1) = 4
            told(1, 2) = 1
            told(1, 3) = 0
            told(0, 0) = 0
            """);
    }

    private static void promise6() {
        run(6, Edges.RICH, """
            # BAD: there is no such CLIMBER; 5 is nobody.
            told(-1, 0) ! BAD
            told(4, 0) ! BAD
            told(5, 0) ! BAD
            told(5, 4) ! BAD
            told(MIN, 0) ! BAD
            told(MAX, 0) ! BAD
            # 0 KIND, 1 FRUIT, 2 WAGE, 3 ODDS, 4 what is brought.
            told(0, -1) ! BAD
            told(0, 5) ! BAD
            told(0, MIN) ! BAD
            told(0, MAX) ! BAD
            told(3, 0) ! 3
            told(3, 1) ! 1
            told(3, 2) ! 3
            told(3, 3) ! 10
            # A LIAR and a FOX: 10 less that FRUIT; HONEST, a MONK: that FRUIT.
            told(0, 4) ! 3
            told(1, 4) ! 6
            told(2, 4) ! 8
            told(3, 4) ! 9
            set(1, 1, 9)
            told(1, 4) = 1
            set(1, 1, 5)
            told(1, 4) = 5
            set(2, 1, 1)
            told(2, 4) = 1
            set(0, 1, 9)
            told(0, 4) = 9
            climber(0, 9, 0, 0)
            told(4, 4) = 9
            told(5, 4) ! BAD
            """);
    }

    private static void promise7() {
        run(7, Edges.RICH, """
            # BAD: there is no such TREE, no such mark.
            of(-1, 0) ! BAD
            of(5, 0) ! BAD
            of(6, 0) ! BAD
            of(MIN, 0) ! BAD
            of(MAX, 0) ! BAD
            of(0, -1) ! BAD
            of(0, 7) ! BAD
            of(0, MIN) ! BAD
            of(0, MAX) ! BAD
            # 0 KIND, 1 NOW, 2 LAST, 3 BEFORE, 4, 5 whether they FELL (1, 0), 6 its FENCE.
            of(0, 0) ! 0
            of(0, 1) ! 0
            of(0, 2) ! 5
            of(0, 3) ! 0
            of(0, 4) ! 0
            of(0, 5) ! 1
            of(0, 6) ! 2
            of(4, 0) ! 1
            of(4, 1) ! 5
            of(4, 2) ! 3
            of(4, 3) ! 5
            of(4, 4) ! 0
            of(4, 5) ! 0
            of(4, 6) ! 0
            """);
        run(7, Edges.CROWDED, """
            of(5, 6) ! 0
            fence(5, 31)
            of(5, 6) ! 31
            of(6, 6) ! BAD
            """);
    }

    private static void promise8() {
        run(8, Edges.RICH, """
            # FRUITS are 0 .. 9, a PRICE is -9 .. 99. BAD less 100000.
            price(-1, 0) ! -100001
            price(10, 0) ! -100001
            price(MIN, 0) ! -100001
            price(MAX, 0) ! -100001
            price(0, -10) ! -100001
            price(0, 100) ! -100001
            price(0, MIN) ! -100001
            price(0, MAX) ! -100001
            price(10, 100) ! -100001
            price(0, -9) = 0
            price(0, 99) = -9
            price(9, -9) = 50
            price(9, 99) = -9
            # What it was may be as BAD, NOT are: these are no refusals.
            price(0, -1) = 99
            price(0, -2) = -1
            price(0, 0) = -2
            price(3, 3) = -9
            price(4, 4) = 4
            """);
    }

    private static void promise9() {
        run(9, Edges.RICH, """
            # BAD: there is no such TREE; a set of CLIMBERS that there are.
            fence(-1, 0) ! BAD
            fence(5, 0) ! BAD
            fence(6, 0) ! BAD
            fence(MIN, 0) ! BAD
            fence(MAX, 0) ! BAD
            fence(4, -1) ! BAD
            fence(4, 16) ! BAD
            fence(4, 17) ! BAD
            fence(4, 31) ! BAD
            fence(4, 32) ! BAD
            fence(4, MIN) ! BAD
            fence(4, MAX) ! BAD
            # NOT: it would shut out who climbs NOW. BAD is named ahead of it.
            fence(0, 1) ! NOT
            fence(0, 15) ! NOT
            fence(1, 4) ! NOT
            fence(0, 17) ! BAD
            fence(0, -1) ! BAD
            # Those who climb another TREE, who climbed LAST, BEFORE may be shut out; nobody can't be.
            fence(0, 14) = 2
            fence(1, 11) = 8
            fence(2, 15) = 0
            fence(4, 15) = 0
            fence(0, 0) = 14
            fence(0, 0) = 0
            fence(4, 0) = 15
            # Behind the YEAR it is no more.
            year()
            fence(0, 1) = 0
            """);
        run(9, """
            # With nobody there, none but the empty set.
            tree(0)
            fence(0, 1) ! BAD
            fence(0, 0) ! 0
            climber(0, 1, 0, 0)
            fence(0, 2) ! BAD
            fence(0, 1) = 0
            """);
        run(9, Edges.CROWDED, """
            # All five; 32 is nobody's bit, who is no CLIMBER.
            fence(0, 32) ! BAD
            fence(0, 63) ! BAD
            fence(5, 31) = 0
            fence(5, 16) = 31
            fence(6, 0) ! BAD
            climb(4, 4)
            fence(4, 16) ! NOT
            fence(4, 15) = 0
            """);
    }

    private static void promise10() {
        run(10, Edges.RICH, """
            # BAD: there is no such TREE, no such CLIMBER.
            climb(-1, 0) ! BAD
            climb(5, 0) ! BAD
            climb(6, 5) ! BAD
            climb(MIN, 5) ! BAD
            climb(MAX, 5) ! BAD
            climb(4, -1) ! BAD
            climb(4, 4) ! BAD
            climb(4, 6) ! BAD
            climb(4, MIN) ! BAD
            climb(4, MAX) ! BAD
            # NOT: the FENCE shuts that one out (a MONK, too).
            climb(0, 1) ! NOT
            climb(1, 3) ! NOT
            fence(2, 4) = 0
            climb(2, 2) ! NOT
            # NOT: that one climbs another TREE, and is no MONK. BAD is named ahead of it.
            climb(4, 0) ! NOT
            climb(5, 0) ! BAD
            # The same TREE once more is no other one.
            climb(0, 0) ! 0
            # A MONK may climb several.
            climb(3, 2) = 5
            climb(4, 2) = 5
            climb(0, 2) = 0
            # Nobody is never shut out, and climbs everywhere.
            fence(3, 11)
            climb(3, 5) = 2
            climb(2, 5) = 5
            fence(3, 15)
            climb(3, 5) ! 5
            """);
        run(10, """
            # HONEST ones, LIARS, FOXES: one TREE in a YEAR.
            climber(0, 1, 0, 0)
            climber(1, 1, 0, 0)
            climber(3, 1, 0, 0)
            text(P,P,P,P,P,P)
            climb(0, 0) = 5
            climb(1, 1) = 5
            climb(2, 2) = 5
            climb(5, 0) ! NOT
            climb(5, 1) ! NOT
            climb(5, 2) ! NOT
            climb(1, 0) ! NOT
            climb(0, 5) = 0
            climb(5, 0) = 5
            climb(0, 0) ! NOT
            year()
            climb(0, 0) = 5
            # A CUTTING, a COMMONS anew: nobody NOW.
            text(P,P)
            climb(1, 0) = 5
            """);
        run(10, """
            # With nobody there, nobody may climb.
            tree(0)
            climb(0, 0) ! BAD
            climb(0, 4) ! BAD
            climb(0, 5) ! 5
            """);
        run(10, Edges.CROWDED, """
            climb(5, 4) = 5
            climb(5, 4) = 4
            climb(0, 4) ! NOT
            climb(0, 6) ! BAD
            climb(6, 4) ! BAD
            climb(5, 5) = 4
            """);
    }

    private static void promise11() {
        run(11, Edges.RICH, """
            # BAD: not 32 .. 126.
            type(31) ! BAD
            type(127) ! BAD
            type(0) ! BAD
            type(-1) ! BAD
            type(10) ! BAD
            type(336) ! BAD
            type(MIN) ! BAD
            type(MAX) ! BAD
            type(32) = 5
            type(126) = 6
            """);
        run(11, """
            # FULL: 60. BAD is named ahead of it.
            59 * type(32)
            type(80) = 60
            type(80) ! FULL
            type(32) ! FULL
            type(31) ! BAD
            type(127) ! BAD
            # What was refused is not there; THE TAPE is empty then.
            commons() = 1
            type(80) = 1
            """);
        run(11, """
            # All 60 are read.
            59 * type(32)
            type(112) = 60
            commons() = -79
            60 * type(32)
            commons() = -80
            58 * type(32)
            type(80) = 59
            type(44) = 60
            commons() = -80
            """);
    }

    private static void promise12() {
        run(12, Edges.RICH, """
            # A FAULT empties THE TAPE (which is 'P a,' here), all else stays.
            commons() = -24
            commons() ! -20
            of(0, 1) = 0
            of(0, 6) = 2
            of(4, 2) = 3
            count(0) = 5
            # In place of all TREES: nobody FELL, nobody NOW, no FENCES.
            text(Ga,Ga) = 2
            count(0) = 2
            count(4) = 0
            of(0, 0) = 1
            of(0, 1) = 5
            of(0, 2) = 0
            of(0, 3) = 5
            of(0, 4) = 0
            of(0, 5) = 0
            of(0, 6) = 0
            of(1, 1) = 5
            of(1, 6) = 0
            of(2, 0) ! BAD
            # CLIMBERS, PRICES, YEARS and who FELL in the last one stay.
            count(1) = 4
            count(2) = 2
            count(3) = 0
            price(3, 3) = -9
            type(80) = 1
            """);
        run(12, """
            # Who FELL in the last YEAR stays; so does THE DRAW.
            climber(0, 1, 0, 10)
            tree(0)
            climb(0, 0)
            year() = 1
            text(Pa) = 1
            count(2) = 1
            count(3) = 1
            of(0, 4) = 0
            bears(0, 1) = 2
            seed(0) = 1103527590
            """);
        run(12, """
            # 1 to 6 TREES.
            text() ! -20
            text(P) = 1
            text(P,G,D,S,P,G) = 6
            of(5, 0) = 1
            text(P,G,D,S,P,G,D) ! -31
            text(P,G,D,S,P,G,) ! -31
            text(P,G,D,S,P,G ,D) ! -32
            count(0) = 6
            # KINDS in this order.
            of(0, 0) = 0
            of(1, 0) = 1
            of(2, 0) = 2
            of(3, 0) = 3
            text(Pff,Gff,Dff,Sff,Pff,Gff) = 6
            text(Pff,Gff,Dff,Sff,Pff,Gff,) ! -43
            """);
    }

    private static void promise12Climbers() {
        for (int c = 0; c <= 5; c++) {
            StringBuilder lines = new StringBuilder();
            for (int k = 0; k < c; k++) {
                lines.append("climber(0, 1, 0, 0)\n");
            }
            // CLIMBERS that there are; f is nobody, who is always there.
            for (int letter = 'a'; letter <= 'e'; letter++) {
                boolean isThere = letter - 'a' < c;
                lines.append("text(P").append((char) letter).append(isThere ? ") = 1\n" : ") ! -21\n");
                lines.append("text(Pf").append((char) letter).append(isThere ? ") = 1\n" : ") ! -22\n");
            }
            run(12, lines.toString(), """
                text(Pf) = 1
                of(0, 2) = 5
                text(Pff) = 1
                of(0, 2) = 5
                of(0, 3) = 5
                text(Pg) ! -21
                text(P`) ! -21
                text(PF) ! -21
                text(PA) ! -21
                """);
        }
        run(12, Edges.CROWDED, """
            text(Seb) = 1
            of(0, 2) = 4
            of(0, 3) = 1
            text(Se) = 1
            of(0, 2) = 4
            of(0, 3) = 5
            text(S) = 1
            of(0, 2) = 5
            of(0, 3) = 5
            """);
    }

    private static void promise12Faults() {
        run(12, Edges.RICH, """
            commons()
            # -20 less the place of the first letter (behind blanks) that can't stand there.
            text(p) ! -20
            text(Q) ! -20
            text(O) ! -20
            text(a) ! -20
            text(,) ! -20
            text(,P) ! -20
            text(0) ! -20
            text(~) ! -20
            text(Px) ! -21
            text(PP) ! -21
            text(P;P) ! -21
            text(P.) ! -21
            text(Paa,) ! -24
            text(Pabc) ! -23
            text(PabP) ! -23
            text(Pa,,P) ! -23
            text(P,x) ! -22
            text(P,a) ! -22
            text(P,G,Dx) ! -25
            text(xP,x) ! -20
            # The end: how many there are.
            text(P,) ! -22
            text(Pab,G,) ! -26
            # Blanks count for nothing: but places are those of letters behind them.
            text( ) ! -21
            text(   ) ! -23
            text(  p) ! -22
            text(P, ) ! -23
            text(P ,  x) ! -25
            text(P a  b   c) ! -29
            text(P  P) ! -23
            text(P a b , G) = 2
            of(0, 2) = 0
            of(0, 3) = 1
            of(1, 2) = 5
            text(  S  ) = 1
            of(0, 0) = 3
            """);
    }

    private static void promise13() {
        run(13, Edges.RICH, """
            count(-1) ! BAD
            count(5) ! BAD
            count(MIN) ! BAD
            count(MAX) ! BAD
            count(0) ! 5
            count(1) ! 4
            count(2) ! 2
            count(3) ! 0
            # Who climbs NOW (a set): a MONK in two TREES is there once, nobody is not in it.
            count(4) ! 5
            climb(2, 2)
            count(4) = 5
            climb(0, 5)
            count(4) = 4
            climb(1, 5)
            climb(2, 5)
            count(4) = 0
            """);
        run(13, Edges.CROWDED, """
            count(0) = 6
            count(1) = 5
            climb(0, 0)
            climb(1, 1)
            climb(2, 2)
            climb(3, 3)
            climb(4, 4)
            count(4) = 31
            climb(5, 2)
            count(4) = 31
            year()
            count(4) = 0
            """);
        run(13, """
            # How many FELL in the last YEAR, not in all: by each TREE, a MONK in two of them twice.
            climber(2, 1, 0, 10)
            text(P,P,P,P,P,P)
            climb(0, 0)
            climb(5, 0)
            year() = 2
            count(3) = 2
            climb(1, 0)
            year() = 1
            count(3) = 1
            year() = 0
            count(3) = 0
            count(2) = 3
            """);
    }

    private static void promise14() {
        run(14, Edges.RICH, """
            # BAD: there is no such TREE, no such FRUIT.
            bears(-1, 0) ! BAD
            bears(5, 0) ! BAD
            bears(6, 0) ! BAD
            bears(MIN, 0) ! BAD
            bears(MAX, 0) ! BAD
            bears(0, -1) ! BAD
            bears(0, 10) ! BAD
            bears(0, MIN) ! BAD
            bears(0, MAX) ! BAD
            bears(0, 0) ! 2
            bears(4, 9) ! 1
            """);
        run(14, """
            # 5 is nobody: brings STONES, by each KIND.
            text(P,G,D,S)
            bears(0, 0) = 2
            bears(1, 0) = 2
            bears(2, 0) = 4
            bears(3, 0) = 2
            bears(0, 1) = 0
            bears(3, 9) = 0
            """);
        run(14, """
            # 1 if LAST FELL; half of that is cut to 0; twice; BEFORE in place of LAST.
            climber(2, 9, 0, 10)
            text(P,G,D,S)
            climb(0, 0)
            climb(1, 0)
            climb(2, 0)
            climb(3, 0)
            year() = 4
            bears(0, 9) = 1
            bears(1, 9) = 0
            bears(1, 0) = 1
            bears(2, 9) = 2
            bears(3, 9) = 0
            bears(3, 0) = 2
            year() = 0
            bears(0, 9) = 0
            bears(0, 0) = 2
            bears(1, 9) = 0
            bears(1, 0) = 1
            bears(2, 0) = 4
            bears(3, 9) = 1
            bears(3, 0) = 0
            climb(1, 0)
            year() = 1
            climb(1, 0)
            year() = 1
            bears(1, 9) = 0
            bears(1, 0) = 0
            """);
        run(14, """
            # LAST and BEFORE bring the same: both halves are of one FRUIT.
            climber(0, 9, 0, 0)
            climber(1, 1, 0, 0)
            text(Gab,Gaf,Gfa)
            bears(0, 9) = 2
            bears(0, 1) = 0
            bears(1, 9) = 1
            bears(1, 0) = 1
            bears(2, 9) = 1
            bears(2, 0) = 1
            """);
    }

    private static void promise15() {
        run(15, Edges.RICH, """
            basket(-1, 0) ! BAD
            basket(10, 0) ! BAD
            basket(MIN, 0) ! BAD
            basket(MAX, 1) ! BAD
            basket(0, -1) ! BAD
            basket(0, 2) ! BAD
            basket(0, MIN) ! BAD
            basket(0, MAX) ! BAD
            basket(9, 0) ! 1
            """);
        run(15, """
            # The most there can be.
            climber(2, 9, 0, 10)
            text(Da,Da,Da,Da,Da,Da)
            basket(9, 0) = 24
            basket(9, 1) = 0
            basket(0, 1) = 24
            # NEXT is as if nobody fell, whatever the ODDS are.
            climb(0, 0)
            basket(9, 1) = 4
            climb(5, 0)
            basket(9, 1) = 8
            basket(0, 1) = 16
            year() = 2
            basket(9, 0) = 4
            # Who FELL already has fallen, in NEXT, too.
            text(S,G)
            climb(0, 0)
            climb(1, 0)
            year() = 2
            basket(9, 1) = 1
            basket(0, 1) = 1
            """);
    }

    private static void promise16() {
        run(16, Edges.RICH, """
            value(-1) ! -100001
            value(2) ! -100001
            value(MIN) ! -100001
            value(MAX) ! -100001
            """);
        run(16, """
            # Each times its PRICE: STONES, too; the least and the most; below 0 it is no refusal.
            climber(0, 9, 0, 0)
            text(Da,Da,Da,Da,Da,Da)
            value(1) ! 0
            price(9, -9)
            value(0) ! -216
            price(9, 99)
            value(0) ! 2376
            price(0, -9)
            value(1) ! -216
            price(0, 99)
            value(1) ! 2376
            text(D,D,D,D,D,D)
            value(0) ! 2376
            text(Gaf)
            price(9, -1)
            price(0, 0)
            value(0) ! -1
            value(1) ! -1
            """);
    }

    private static void promise17() {
        run(17, """
            # Nothing there: a YEAR is one all the same.
            year() = 0
            year() = 0
            count(2) = 2
            tree(0)
            year() = 0
            count(2) = 3
            # For each TREE that somebody climbs NOW THE DRAW is drawn: for none here.
            seed(1) = 1
            """);
        run(17, Edges.RICH, """
            # LAST becomes BEFORE, NOW becomes LAST, nobody climbs NOW; FENCES stay.
            seed(1)
            year() = 2
            of(0, 1) = 5
            of(0, 2) = 0
            of(0, 3) = 5
            of(0, 4) = 1
            of(0, 5) = 0
            of(0, 6) = 2
            of(1, 2) = 2
            of(1, 3) = 5
            of(4, 2) = 5
            of(4, 3) = 3
            """);
        run(17, """
            # FULL: 9999 YEARS. More calls than the document speaks of, for only so it is reached.
            climber(0, 1, 0, 10)
            tree(0)
            9998 * year()
            climb(0, 0)
            year() = 1
            count(2) = 9999
            climb(0, 0)
            year() ! FULL
            count(2) = 9999
            count(3) = 1
            of(0, 1) = 0
            """);
    }

    /** THE DRAW from 1 on, by 10: 8 8 3 5 1 7 0 9; from 0 on: 0. */
    private static void promise17Odds() {
        for (int odds = 0; odds <= 10; odds++) {
            int[] drawn = {8, 8, 3, 5, 1, 7, 0, 9};
            StringBuilder lines = new StringBuilder();
            for (int d : drawn) {
                // If it is less than the ODDS, that one FELL.
                lines.append("climb(0, 0)\nyear() = ").append(d < odds ? 1 : 0).append('\n');
            }
            run(17, "climber(0, 1, 0, " + odds + ")", "tree(0)", lines.toString());
        }
        run(17, """
            # Counts by 65536 (cut): THE DRAW 655360 is 10 of these, 655359 is 9; 65535 is none, 65536 is one.
            climber(0, 1, 0, 9)
            tree(0)
            seed(778675843)
            climb(0, 0)
            year() = 1
            seed(1068481310) = 655360
            climb(0, 0)
            year() = 0
            seed(2032319262) = 655359
            set(0, 3, 1)
            climb(0, 0)
            year() = 1
            seed(1742513795) = 65535
            climb(0, 0)
            year() = 0
            seed(230538014) = 65536
            # The most there is, 32767, is 7 by 10; none at all is 0.
            set(0, 3, 7)
            climb(0, 0)
            year() = 0
            seed(2088216195) = 2147483647
            set(0, 3, 0)
            climb(0, 0)
            year() = 0
            seed(0) = 0
            """);
        run(17, """
            # A FOX never: it is drawn, though. Nobody is not drawn for.
            climber(3, 1, 0, 10)
            climber(0, 1, 0, 1)
            text(P,P,P)
            seed(0)
            climb(0, 0)
            year() = 0
            seed(0) = 12345
            climb(2, 1)
            year() = 1
            of(2, 4) = 1
            seed(0) = 12345
            # By numbers: the first 0, the second another one.
            climb(0, 1)
            climb(1, 0)
            year() = 1
            of(0, 4) = 1
            seed(0)
            climb(0, 0)
            climb(1, 1)
            year() = 0
            """);
    }

    private static void promise18() {
        run(18, Edges.RICH, """
            # BAD: below 0.
            seed(-1) ! BAD
            seed(-2) ! BAD
            seed(MIN) ! BAD
            seed(0)
            seed(0) = 0
            seed(MAX) = 0
            seed(MAX) = 2147483647
            seed(1) = 2147483647
            """);
        run(18, """
            # The lowest 31 bits: from the most one on, from 0 on, from 1 on.
            climber(2, 1, 0, 0)
            text(P,P)
            seed(MAX)
            climb(0, 0)
            year() = 0
            seed(0) = 1043980748
            climb(0, 0)
            year() = 0
            seed(1) = 12345
            climb(1, 0)
            year() = 0
            seed(1) = 1103527590
            # Twice in a YEAR with two TREES: 1103527590 becomes 377401575.
            climb(0, 0)
            climb(1, 0)
            year() = 0
            seed(2147483646) = 377401575
            # The highest bit alone stays where it is, with 12345 more.
            climb(0, 0)
            year() = 0
            seed(1073741824) = 2087949151
            climb(0, 0)
            year() = 0
            seed(0) = 1073754169
            """);
    }
}
