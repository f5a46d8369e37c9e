/** Promises 28 to 37: what is told by sheets, and the sheets themselves. */
public final class SheetsTests {
    private static final Due DUE = new Due();

    public static void main(String[] args) {
        hired();
        hiredOfLikeOnes();
        night();
        nightOfFallen();
        pie();
        earned();
        earnedOfFallen();
        again();
        film();
        sheets();
        items();
        lowestBits();
        copies();
        refusals();
        DUE.end("SheetsTests");
    }

    /** HONEST 3, LIAR 6, MONK 8, WAGES 2, 1, 6. */
    private static ClimbedFruit withThree(String text) {
        ClimbedFruit x = new ClimbedFruit();
        x.climber(0, 3, 2, 0);
        x.climber(1, 4, 1, 0);
        x.climber(2, 8, 6, 0);
        Due.commons(x, text);
        return x;
    }

    private static void hiredIs(ClimbedFruit x, int wages, int... row) {
        DUE.is(28, "hired(-1)", x.hired(0, 2, 0, -1), wages);
        for (int t = 0; t < row.length; t++) {
            DUE.is(28, "hired(" + t + ")", x.hired(0, 2, 0, t), row[t]);
        }
    }

    private static void hired() {
        ClimbedFruit x = withThree("P,D");
        Due.fill(x, 0, 2, 0, 0, 0, 0, 0, 0, 0, 0, 0, 0);
        hiredIs(x, 0, 5, 5);
        Due.fill(x, 0, 2, -5, -1, -1, 2, -1, -1, -1, -1, -1, -1);
        hiredIs(x, 2, 0, 5);
        Due.fill(x, 0, 2, 0, 0, 0, 3, 0, 0, 0, 0, 0, 0);
        hiredIs(x, 2, 5, 0);
        Due.fill(x, 0, 2, 0, 0, 0, 5, 0, 0, 0, 0, 0, 0);
        hiredIs(x, -4, -4, -4);
        Due.fill(x, 0, 2, 0, 0, 0, 0, 0, 0, 0, 0, 6, 0);
        hiredIs(x, 6, 2, 2);
        Due.fill(x, 0, 2, 0, 0, 0, 0, 0, 0, 0, 0, 7, 0);
        hiredIs(x, -4);
        Due.fill(x, 0, 2, 0, 0, 0, 1, 0, 0, 1, 0, 0, 0);
        hiredIs(x, 3, 0, 1);
        Due.fill(x, 0, 2, 0, 0, 0, 0, 0, 0, 0, 0, 0, 1);
        hiredIs(x, -4);
        x.fence(0, 1);
        Due.fill(x, 0, 2, 0, 0, 0, 1, 0, 0, 0, 0, 0, 0);
        hiredIs(x, 2, 5, 0);
        Due.fill(x, 0, 3, 0, 0, 0, 4294967296L, 0, 0, 0, 0, 0, 0);
        DUE.is(28, "hired, more than an int", x.hired(0, 3, 0, -1), -4);
        Due.fill(x, 0, 3, 0, 0, 0, -4294967295L, 0, 0, 0, 0, 0, 0);
        DUE.is(28, "hired, less than an int", x.hired(0, 3, 0, -1), 0);
        Due.fill(x, 0, 2, 99, 0, 0, 0, 0, 0, 0, 1, 0, 0, 0);
        DUE.is(28, "hired from item 1 on", x.hired(0, 2, 1, -1), 1);
    }

    private static void hiredOfLikeOnes() {
        ClimbedFruit x = withThree("Gaf,Sa,P");
        // What LAST brings to GRAFTED and SLOW ones is there for nothing.
        Due.fill(x, 0, 2, 0, 0, 0, 3, 0, 0, 0, 0, 0, 0);
        hiredIs(x, 0, 5, 5, 5);
        x.set(1, 2, 2);
        Due.fill(x, 0, 2, 0, 0, 0, 4, 0, 0, 0, 0, 0, 0);
        hiredIs(x, 2, 0, 5, 5);
        // A MONK who climbs already stands in further TREES for nothing, and comes ahead of nobody.
        Due.fill(x, 0, 2, 0, 0, 0, 0, 0, 0, 0, 0, 2, 0);
        hiredIs(x, 6, 2, 2, 2);
        x.set(0, 2, 0);
        hiredIs(x, 6, 0, 2, 2);
    }

    private static void nightIs(ClimbedFruit x, int ways, int sure) {
        DUE.is(29, "night(0)", x.night(1, 0, 0, 0), ways);
        DUE.is(29, "night(1)", x.night(1, 0, 0, 1), sure);
    }

    private static void night() {
        ClimbedFruit x = new ClimbedFruit();
        x.sheet(1, 0, 0);
        nightIs(x, 1, 0);
        x = withThree("P,P");
        Due.fill(x, 1, 0, -1, -1);
        // 16 rows less 0 0 and 1 1.
        nightIs(x, 14, 0);
        Due.fill(x, 1, 0, 3, -128);
        nightIs(x, 3, 1);
        Due.fill(x, 1, 0, 3, 6);
        nightIs(x, 1, 3);
        Due.fill(x, 1, 0, 3, 3);
        nightIs(x, 0, -4);
        Due.fill(x, 1, 0, 8, 8);
        nightIs(x, 1, 4);
        Due.fill(x, 1, 0, 0, 0);
        nightIs(x, 1, 0);
        Due.fill(x, 1, 0, 10, -1);
        nightIs(x, 0, -4);
        x.fence(0, 1);
        Due.fill(x, 1, 0, 3, -1);
        nightIs(x, 0, -4);
        x.climber(0, 3, 0, 0);
        x.fence(0, 0);
        nightIs(x, 8, 0);
        Due.fill(x, 1, 0, 3, 3);
        nightIs(x, 2, 9);
        Due.fill(x, 1, 3, 4294967299L, -1);
        DUE.is(29, "night, more than an int", x.night(1, 3, 0, 0), 0);
    }

    private static void nightOfFallen() {
        ClimbedFruit x = withThree("Ga,Sa");
        Due.fill(x, 1, 0, 3, 3);
        nightIs(x, 14, 0);
        Due.fill(x, 1, 0, 6, 3);
        nightIs(x, 3, 2);
        Due.fill(x, 1, 0, -1, 6);
        nightIs(x, 0, -4);
        x.set(0, 3, 10);
        x.climb(0, 0);
        x.year();
        Due.fill(x, 1, 0, 3, -1);
        // Half of 1 is none: the GRAFTED one bears 3 by nobody but 0.
        nightIs(x, 3, 1);
    }

    private static void pieIs(ClimbedFruit x, int ways, int first) {
        DUE.is(30, "pie(0)", x.pie(0, 2, 0, 0), ways);
        DUE.is(30, "pie(1)", x.pie(0, 2, 0, 1), first);
    }

    private static void pie() {
        ClimbedFruit x = new ClimbedFruit();
        Due.fill(x, 0, 2, 0, 0, 0, -7, 0, 0, 0, 0, 0, 0);
        pieIs(x, 1, 0);
        Due.fill(x, 0, 2, 0, 0, 0, 1, 0, 0, 0, 0, 0, 0);
        pieIs(x, 0, -4);
        x = withThree("P,P,Sa");
        Due.fill(x, 0, 2, 2, 0, 0, 2, 0, 0, 2, 0, 0, 0);
        // 1 5 or 5 1, with 0, 2 or nobody in the SLOW one.
        pieIs(x, 6, (1 * 6 + 5) * 6 + 0);
        Due.fill(x, 0, 2, 2, 0, 0, 1, 0, 0, 2, 0, 0, 0);
        pieIs(x, 0, -4);
        Due.fill(x, 0, 2, 2, 0, 0, 2, 0, 0, 2, 0, 0, 1);
        pieIs(x, 0, -4);
        Due.fill(x, 0, 2, 0, 0, 0, 2, 0, 0, 0, 0, 4, 0);
        pieIs(x, 4, (2 * 6 + 2) * 6 + 0);
        x.fence(2, 1);
        pieIs(x, 3, (2 * 6 + 2) * 6 + 1);
        Due.fill(x, 0, 3, 0, 0, 0, 4294967298L, 0, 0, 0, 0, 4, 0);
        DUE.is(30, "pie, more than an int", x.pie(0, 3, 0, 0), 0);
        x = withThree("P,P,P,P,P,P");
        Due.fill(x, 0, 2, 0, 0, 0, 0, 0, 0, 0, 0, 12, 0);
        pieIs(x, 1, 2 * (1 + 6 + 36 + 216 + 1296 + 7776));
    }

    private static void earned() {
        ClimbedFruit x = withThree("P,Sb");
        x.fence(0, 7);
        Due.fill(x, 1, 0, 0, 2, 5);
        // YEAR 0: 0 and 2; YEAR 1: 2 and nobody; YEAR 2: nobody and 0; YEAR 3: as YEAR 0.
        int[] plain = {0, 6, 16, 0, 6};
        int[] slow = {0, 12, 16, 0, 6};
        int sum = 0;
        for (int m = 0; m <= 4; m++) {
            sum += plain[m] + slow[m];
            DUE.is(31, "earned(" + m + ")", x.earned(1, 0, 0, 3, m), sum);
        }
        DUE.is(31, "earned, of the last two", x.earned(1, 0, 1, 2, 1), 16 + 12);
        x.price(8, -9);
        DUE.is(31, "earned, below 0", x.earned(1, 0, 1, 1, 200), -18 * 200 + 12 - 18 * 199);
        DUE.is(31, "nothing has changed", x.of(0, 2), 5);
        DUE.is(31, "no YEAR has passed", x.count(2), 0);
        Due.fill(x, 1, 0, 3, -1, 6, 5);
        DUE.is(31, "3 is none", x.earned(1, 0, 0, 1, 0), -100002);
        DUE.is(31, "-1 is none", x.earned(1, 0, 1, 1, 0), -100002);
        DUE.is(31, "6 is none", x.earned(1, 0, 2, 1, 0), -100002);
        DUE.is(31, "5 is nobody", x.earned(1, 0, 3, 1, 9), 12);
        DUE.is(31, "one of two is none", x.earned(1, 0, 2, 2, 9), -100002);
        Due.fill(x, 1, 3, 4294967296L);
        DUE.is(31, "more than an int", x.earned(1, 3, 0, 1, 0), -100002);
    }

    private static void earnedOfFallen() {
        ClimbedFruit x = withThree("S");
        x.set(0, 3, 10);
        x.climb(0, 0);
        x.year();
        Due.fill(x, 1, 0, 1);
        DUE.is(31, "earned behind 1", x.earned(1, 0, 0, 1, 1), 3);
        DUE.is(31, "earned behind 2", x.earned(1, 0, 0, 1, 2), 3 + 12);
        Due.fill(x, 1, 0, 0);
        // LAST fell, then becomes BEFORE that fell: only behind two YEARS nobody of those FELL.
        DUE.is(32, "again(0)", x.again(1, 0, 0, 1, 0), 3);
        DUE.is(32, "again(1)", x.again(1, 0, 0, 1, 1), 1);
    }

    private static void againIs(ClimbedFruit x, int n, int behind, int ahead) {
        DUE.is(32, "again(" + n + ", 0)", x.again(1, 0, 0, n, 0), behind);
        DUE.is(32, "again(" + n + ", 1)", x.again(1, 0, 0, n, 1), ahead);
    }

    private static void again() {
        ClimbedFruit x = withThree("P,S");
        Due.fill(x, 1, 0, 5, 5, 5, 5, 5, 5, 5, 5);
        for (int n = 1; n <= 8; n++) {
            // All is the same each YEAR, but the place of the ROTA only behind n.
            againIs(x, n, n, n);
        }
        Due.fill(x, 1, 0, 0, 1, 2);
        againIs(x, 1, 3, 1);
        againIs(x, 2, 4, 2);
        againIs(x, 3, 5, 3);
        Due.commons(x, "Pf");
        Due.fill(x, 1, 0, 0, 5, 5);
        // LAST and BEFORE are nobody at first and behind three YEARS.
        againIs(x, 3, 3, 3);
        Due.commons(x, "Pfa");
        againIs(x, 3, 4, 3);
        Due.commons(x, "Paf");
        againIs(x, 3, 5, 3);
        Due.fill(x, 1, 0, 3);
        againIs(x, 1, -2, -2);
        ClimbedFruit none = new ClimbedFruit();
        Due.fill(none, 1, 0, 5, 5);
        againIs(none, 2, 2, 2);
    }

    private static void film() {
        for (int lane = 0; lane <= 3; lane++) {
            ClimbedFruit x = withThree("Gab,Dc,P");
            x.sheet(0, lane, 12);
            x.item(0, lane, 0, 5);
            x.item(0, lane, 11, 5);
            DUE.is(33, "film in lane " + lane, x.film(0, lane, 1), 10);
            DUE.is(33, "item 0 stays", x.earned(0, lane, 0, 1, 0), 0);
            DUE.is(33, "item 11 stays", x.earned(0, lane, 11, 1, 0), 0);
            Due.commons(x, "Gb,D,P");
            // The GRAFTED one has 6 by LAST and 3 by 0, the DOUBLE 8 by 2, and STONES are by nobody.
            DUE.is(33, "pie of the film", x.pie(0, lane, 1, 0), 1);
            DUE.is(33, "pie of the film", x.pie(0, lane, 1, 1), (0 * 6 + 2) * 6 + 5);
        }
    }

    private static void sheets() {
        ClimbedFruit x = new ClimbedFruit();
        DUE.is(34, "sheet(-1, 0, 1)", x.sheet(-1, 0, 1), -1);
        DUE.is(34, "sheet(4, 0, 1)", x.sheet(4, 0, 1), -1);
        DUE.is(34, "sheet(0, -1, 1)", x.sheet(0, -1, 1), -1);
        DUE.is(34, "sheet(0, 4, 1)", x.sheet(0, 4, 1), -1);
        DUE.is(34, "sheet(0, 0, 17)", x.sheet(0, 0, 17), -1);
        DUE.is(34, "sheet(0, 4, -1)", x.sheet(0, 4, -1), -1);
        DUE.is(34, "sheet(0, 0, -1)", x.sheet(0, 0, -1), -14);
        DUE.is(34, "sheet(0, 0, min)", x.sheet(0, 0, Integer.MIN_VALUE), -14);
        DUE.is(35, "drop(0)", x.drop(0), -11);
        DUE.is(34, "sheet(0, 0, 0)", x.sheet(0, 0, 0), 0);
        DUE.is(35, "drop(0)", x.drop(0), 0);
        DUE.is(35, "drop(0), again", x.drop(0), -11);
        DUE.is(34, "sheet(3, 3, 16)", x.sheet(3, 3, 16), 16);
        DUE.is(34, "sheet(3, 3, -1) changes nothing", x.sheet(3, 3, -1), -14);
        DUE.is(35, "drop(3)", x.drop(3), 16);
        DUE.is(35, "drop(-1)", x.drop(-1), -1);
        DUE.is(35, "drop(4)", x.drop(4), -1);
        Due.fill(x, 0, 0, 5);
        DUE.is(34, "an item of the old row", x.earned(0, 0, 0, 1, 0), 0);
        x.sheet(0, 0, 1);
        DUE.is(34, "a new row is of zeros", x.earned(0, 0, 0, 1, 0), -100002);
    }

    private static void items() {
        ClimbedFruit x = new ClimbedFruit();
        DUE.is(36, "item(0, 0, 0, 0), missing", x.item(0, 0, 0, 0), -11);
        x.sheet(0, 1, 3);
        DUE.is(36, "item(0, 1, 0, 1)", x.item(0, 1, 0, 1), 1);
        DUE.is(36, "item(0, 1, 2, 1)", x.item(0, 1, 2, 1), 1);
        DUE.is(36, "item(0, 1, 3, 1)", x.item(0, 1, 3, 1), -13);
        DUE.is(36, "item(0, 1, -1, 1)", x.item(0, 1, -1, 1), -13);
        DUE.is(36, "item(0, 1, min, 1)", x.item(0, 1, Integer.MIN_VALUE, 1), -13);
        DUE.is(36, "item(0, 1, max, 1)", x.item(0, 1, Integer.MAX_VALUE, 1), -13);
        DUE.is(36, "item(0, 0, 9, 1)", x.item(0, 0, 9, 1), -12);
        DUE.is(36, "item(0, 4, 0, 1)", x.item(0, 4, 0, 1), -1);
        DUE.is(36, "item(0, -1, 0, 1)", x.item(0, -1, 0, 1), -1);
        DUE.is(36, "item(4, 0, 0, 1)", x.item(4, 0, 0, 1), -1);
        DUE.is(36, "item(-1, 0, 0, 1)", x.item(-1, 0, 0, 1), -1);
        DUE.is(36, "item(1, 0, 0, 1), missing", x.item(1, 0, 0, 1), -11);
    }

    /** 5 in the lowest bits of a LANE is nobody; with more bits kept it is none. */
    private static void lowestBits() {
        long[] above = {256, 65536, 4294967296L};
        for (int lane = 0; lane <= 3; lane++) {
            ClimbedFruit x = new ClimbedFruit();
            for (int k = 0; k < 3; k++) {
                Due.fill(x, 0, lane, above[k] + 5, above[k] / 2 + 5);
                DUE.is(36, "lane " + lane + ", " + (above[k] + 5), x.earned(0, lane, 0, 1, 0), lane <= k ? 0 : -100002);
                DUE.is(36, "lane " + lane + ", " + (above[k] / 2 + 5), x.earned(0, lane, 1, 1, 0), lane < k ? 0 : -100002);
            }
            // The highest bit that is left is a sign: below 0 nothing is known.
            x.climber(0, 3, 0, 0);
            x.tree(0);
            for (int k = 0; k < 3; k++) {
                Due.fill(x, 0, lane, above[k] / 2);
                int due = lane == k ? 2 : lane < k ? 1 : 0;
                DUE.is(36, "lane " + lane + ", " + above[k] / 2, x.night(0, lane, 0, 0), due);
            }
        }
    }

    private static void copies() {
        ClimbedFruit x = new ClimbedFruit();
        for (int c = 0; c < 5; c++) {
            x.climber(0, c + 1, 0, 0);
        }
        x.tree(0);
        Due.fill(x, 0, 2, 0, 1, 2, 3, 4);
        Due.fill(x, 1, 2, 5, 5, 5);
        DUE.is(37, "copy(0, 1, 1, 0, 2)", x.copy(0, 1, 1, 0, 2), 2);
        rowIs(x, 1, 1, 2, 5);
        DUE.is(37, "copy(0, 0, 0, 1, 4)", x.copy(0, 0, 0, 1, 4), 4);
        rowIs(x, 0, 0, 0, 1, 2, 3);
        DUE.is(37, "copy(0, 1, 0, 0, 4)", x.copy(0, 1, 0, 0, 4), 4);
        rowIs(x, 0, 0, 1, 2, 3, 3);
        DUE.is(37, "copy(0, 5, 1, 3, 0)", x.copy(0, 5, 1, 3, 0), 0);
        DUE.is(37, "copy(0, 6, 1, 3, 0)", x.copy(0, 6, 1, 3, 0), -13);
        DUE.is(37, "copy(0, 5, 1, 4, 0)", x.copy(0, 5, 1, 4, 0), -13);
        DUE.is(37, "copy(0, -1, 1, 0, 1)", x.copy(0, -1, 1, 0, 1), -13);
        DUE.is(37, "copy(0, 0, 1, -1, 1)", x.copy(0, 0, 1, -1, 1), -13);
        DUE.is(37, "copy(0, 0, 1, 0, -1)", x.copy(0, 0, 1, 0, -1), -13);
        DUE.is(37, "copy(0, 0, 1, 0, 4)", x.copy(0, 0, 1, 0, 4), -13);
        DUE.is(37, "copy(0, 3, 1, 0, 3)", x.copy(0, 3, 1, 0, 3), -13);
        DUE.is(37, "copy(0, max, 1, 0, max)", x.copy(0, Integer.MAX_VALUE, 1, 0, Integer.MAX_VALUE), -13);
        DUE.is(37, "copy(0, 1, 1, 0, max)", x.copy(0, 1, 1, 0, Integer.MAX_VALUE), -13);
        rowIs(x, 1, 1, 2, 5);
        x.sheet(2, 3, 3);
        DUE.is(37, "copy(0, 0, 2, 9, 1)", x.copy(0, 0, 2, 9, 1), -12);
        DUE.is(37, "copy(0, 0, 3, 0, 1)", x.copy(0, 0, 3, 0, 1), -11);
        DUE.is(37, "copy(3, 0, 0, 0, 1)", x.copy(3, 0, 0, 0, 1), -11);
        DUE.is(37, "copy(3, 0, 3, 0, 0)", x.copy(3, 0, 3, 0, 0), -11);
        DUE.is(37, "copy(4, 0, 3, 0, 1)", x.copy(4, 0, 3, 0, 1), -1);
        DUE.is(37, "copy(3, 0, -1, 0, 1)", x.copy(3, 0, -1, 0, 1), -1);
    }

    /** What one CLIMBER or nobody earns in a YEAR tells which item it is. */
    private static void rowIs(ClimbedFruit x, int sheet, int... items) {
        for (int i = 0; i < items.length; i++) {
            int due = items[i] == 5 ? 0 : 2 * (items[i] + 1);
            DUE.is(37, "item " + i + " of sheet " + sheet, x.earned(sheet, 2, i, 1, 1), due);
        }
    }

    /** Of several refusals the first that a call names. */
    private static void refusals() {
        ClimbedFruit x = withThree("P,P");
        x.sheet(0, 2, 10);
        x.sheet(1, 2, 1);
        int[][] rows = {{4, 0, 0, -1}, {-1, 0, 0, -1}, {3, 4, 0, -1}, {3, -1, 0, -1}, {3, 2, 0, -11}, {0, 1, 9, -12}, {0, 2, 9, -13}, {0, 2, -1, -13}, {0, 2, Integer.MAX_VALUE, -13}, {0, 2, Integer.MIN_VALUE, -13}};
        for (int[] r : rows) {
            String by = "(" + r[0] + ", " + r[1] + ", " + r[2] + ")";
            DUE.is(28, "hired" + by, x.hired(r[0], r[1], r[2], -1), r[3]);
            DUE.is(29, "night" + by, x.night(r[0], r[1], r[2], 0), r[3]);
            DUE.is(30, "pie" + by, x.pie(r[0], r[1], r[2], 1), r[3]);
            DUE.is(31, "earned" + by, x.earned(r[0], r[1], r[2], 2, 0), r[3] - 100000);
            DUE.is(32, "again" + by, x.again(r[0], r[1], r[2], 2, 0), r[3]);
            DUE.is(33, "film" + by, x.film(r[0], r[1], r[2]), r[3]);
        }
        DUE.is(28, "hired(3, 2, 0, 2)", x.hired(3, 2, 0, 2), -1);
        DUE.is(28, "hired(3, 2, 0, -2)", x.hired(3, 2, 0, -2), -1);
        DUE.is(28, "hired(0, 2, 1, 0)", x.hired(0, 2, 1, 0), -13);
        DUE.is(29, "night(3, 2, 0, 2)", x.night(3, 2, 0, 2), -1);
        DUE.is(29, "night(3, 2, 0, -1)", x.night(3, 2, 0, -1), -1);
        DUE.is(29, "night(1, 2, 0, 0)", x.night(1, 2, 0, 0), -13);
        DUE.is(30, "pie(3, 2, 0, 2)", x.pie(3, 2, 0, 2), -1);
        DUE.is(30, "pie(3, 2, 0, -1)", x.pie(3, 2, 0, -1), -1);
        DUE.is(30, "pie(0, 2, 1, 0)", x.pie(0, 2, 1, 0), -13);
        DUE.is(31, "earned(3, 2, 0, 0, 0)", x.earned(3, 2, 0, 0, 0), -100001);
        DUE.is(31, "earned(3, 2, 0, 9, 0)", x.earned(3, 2, 0, 9, 0), -100001);
        DUE.is(31, "earned(3, 2, 0, 1, -1)", x.earned(3, 2, 0, 1, -1), -100001);
        DUE.is(31, "earned(3, 2, 0, 1, 201)", x.earned(3, 2, 0, 1, 201), -100001);
        DUE.is(31, "earned(0, 2, 3, 8, 1)", x.earned(0, 2, 3, 8, 1), -100013);
        DUE.is(31, "earned(0, 2, 2, 8, 1)", x.earned(0, 2, 2, 8, 1), 12);
        DUE.is(32, "again(3, 2, 0, 0, 0)", x.again(3, 2, 0, 0, 0), -1);
        DUE.is(32, "again(3, 2, 0, 9, 0)", x.again(3, 2, 0, 9, 0), -1);
        DUE.is(32, "again(3, 2, 0, 1, 2)", x.again(3, 2, 0, 1, 2), -1);
        DUE.is(32, "again(3, 2, 0, 1, -1)", x.again(3, 2, 0, 1, -1), -1);
        DUE.is(33, "film(0, 2, 1)", x.film(0, 2, 1), -13);
    }
}
