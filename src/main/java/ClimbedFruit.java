import java.util.Arrays;

/**
 * Fruit by who climbed last year: trees of a commons bear each autumn by who climbed them the year
 * ahead. Words in capitals in the comments are the terms of the document, ../shared/DOC.md.
 */
public final class ClimbedFruit {
    public static final int BAD = -1, NOT = -2, FULL = -3, NONE = -4, NULL = -11, CAST = -12, INDEX = -13, SIZE = -14;

    private static final int MOST_TREES = 6;
    private static final int MOST_CLIMBERS = 5;
    private static final int MOST_YEARS = 9999;
    private static final int MOST_LETTERS = 60;
    private static final int MOST_ROTA = 8;
    private static final int MOST_ROTA_YEARS = 200;
    private static final int MOST_ITEMS = 16;
    private static final int SHEETS = 4;
    private static final int LANES = 4;
    private static final int KINDS = 4;
    private static final int FRUITS = 10;
    private static final int STONES = 0;
    private static final int TENTHS = 10;
    private static final int LOWEST_31_BITS = 0x7fffffff;
    private static final int MOST_GAIN = 9999;

    /** The number of nobody, who stands behind all CLIMBERS in rows of who climbs. */
    private static final int NOBODY = 5;
    private static final int FOLK = NOBODY + 1;
    private static final int SETS = 1 << MOST_CLIMBERS;

    /** How much lower refused answers are where others may be below 0 themselves. */
    private static final int LOWER = 100000;
    private static final int FAULT = -20;

    private static final int LIAR = 1, MONK = 2, FOX = 3;
    private static final int GRAFTED = 1, DOUBLE = 2, SLOW = 3;
    private static final String KIND_LETTERS = "PGDS";
    private static final int BYTES = 0, SHORTS = 1, INTS = 2;

    private final Ground ground = new Ground();
    private final Ground kept = new Ground();
    private boolean hasImage;
    private final Tape tape = new Tape();
    private final Sheet[] sheets = new Sheet[SHEETS];
    private final Plan plan = new Plan();
    private final Orders orders = new Orders(plan);
    private final Wants wants = new Wants(plan);
    private final Villages villages = new Villages(plan);
    private final Rota rota = new Rota(ground);
    private final int[] fruits = new int[MOST_TREES];

    public ClimbedFruit() {
        for (int s = 0; s < SHEETS; s++) {
            sheets[s] = new Sheet();
        }
    }

    // ---- 1 trees, climbers

    public int tree(int kind) {
        if (!isWithin(kind, 0, KINDS - 1)) {
            return BAD;
        }
        return ground.treeCount >= MOST_TREES ? FULL : ground.plant(kind);
    }

    public int cutting(int tree) {
        if (!ground.hasTree(tree)) {
            return BAD;
        }
        return ground.treeCount >= MOST_TREES ? FULL : ground.plantCutting(tree);
    }

    public int climber(int kind, int fruit, int wage, int odds) {
        if (!isWithin(kind, 0, KINDS - 1) || !isTrait(1, fruit) || !isTrait(2, wage) || !isTrait(3, odds)) {
            return BAD;
        }
        return ground.climberCount >= MOST_CLIMBERS ? FULL : ground.welcome(kind, fruit, wage, odds);
    }

    public int set(int climber, int what, int v) {
        if (!ground.hasClimber(climber) || !isTrait(what, v)) {
            return BAD;
        }
        Climber one = ground.climbers[climber];
        int was = one.trait(what);
        one.change(what, v);
        return was;
    }

    public int told(int climber, int what) {
        return ground.hasClimber(climber) && isWithin(what, 0, 4) ? ground.climbers[climber].trait(what) : BAD;
    }

    public int of(int tree, int what) {
        return ground.hasTree(tree) && isWithin(what, 0, 6) ? ground.trees[tree].mark(what) : BAD;
    }

    public int price(int fruit, int v) {
        if (!isFruit(fruit) || !isWithin(v, -9, 99)) {
            return BAD - LOWER;
        }
        int was = ground.prices[fruit];
        ground.prices[fruit] = v;
        return was;
    }

    public int fence(int tree, int set) {
        if (!ground.hasTree(tree) || !ground.isSet(set)) {
            return BAD;
        }
        Tree one = ground.trees[tree];
        if (isIn(set, one.now)) {
            return NOT;
        }
        int was = one.fence;
        one.fence = set;
        return was;
    }

    public int climb(int tree, int climber) {
        if (!ground.hasTree(tree) || !ground.isFolk(climber)) {
            return BAD;
        }
        if (!ground.mayClimbNow(tree, climber)) {
            return NOT;
        }
        Tree one = ground.trees[tree];
        int was = one.now;
        one.now = climber;
        return was;
    }

    public int type(int letter) {
        if (!isWithin(letter, 32, 126)) {
            return BAD;
        }
        return tape.length >= MOST_LETTERS ? FULL : tape.write(letter);
    }

    public int commons() {
        int answer = tape.parse(ground.climberCount);
        if (answer > 0) {
            tape.plantAll(ground, answer);
        }
        tape.length = 0;
        return answer;
    }

    public int count(int what) {
        switch (what) {
            case 0: return ground.treeCount;
            case 1: return ground.climberCount;
            case 2: return ground.years;
            case 3: return ground.fell;
            case 4: return ground.climbersNow();
            default: return BAD;
        }
    }

    public int bears(int tree, int fruit) {
        return ground.hasTree(tree) && isFruit(fruit) ? ground.borne(tree, fruit) : BAD;
    }

    public int basket(int fruit, int what) {
        if (!isFruit(fruit) || !isWithin(what, 0, 1)) {
            return BAD;
        }
        return what == 0 ? ground.inBasket(fruit) : ground.inNext(fruit);
    }

    public int value(int what) {
        if (!isWithin(what, 0, 1)) {
            return BAD - LOWER;
        }
        return what == 0 ? ground.basketValue() : ground.nextValue();
    }

    public int year() {
        return ground.years >= MOST_YEARS ? FULL : ground.passYear();
    }

    public int seed(int v) {
        if (v < 0) {
            return BAD;
        }
        int was = ground.draw;
        ground.draw = v;
        return was;
    }

    // ---- 2 orders

    public int best(int tree) {
        if (tree != -1 && !ground.hasTree(tree)) {
            return BAD - LOWER;
        }
        plan.lay(ground);
        int gain = orders.mostGain(plan.all, 0);
        if (tree == -1) {
            return gain;
        }
        orders.layRow();
        return orders.row[tree];
    }

    public int worth(int climber) {
        if (!ground.hasClimber(climber)) {
            return BAD - LOWER;
        }
        plan.lay(ground);
        return orders.mostGain(plan.all, 0) - orders.mostGain(plan.all & ~(1 << climber), 0);
    }

    public int game(int set) {
        if (!ground.isSet(set)) {
            return BAD - LOWER;
        }
        plan.lay(ground);
        return villages.outcome(set);
    }

    public int fences(int set, int gain) {
        if (!ground.isSet(set) || !isWithin(gain, -MOST_GAIN, MOST_GAIN)) {
            return BAD;
        }
        plan.lay(ground);
        return orders.fewestShut(set, gain);
    }

    public int upper() {
        int tenths = ground.expectedTenths();
        return tenths / sharedWithTen(tenths);
    }

    public int lower() {
        return TENTHS / sharedWithTen(ground.expectedTenths());
    }

    public int send() {
        plan.lay(ground);
        int gain = orders.mostGain(plan.all, 0);
        orders.layRow();
        for (int t = 0; t < ground.treeCount; t++) {
            ground.trees[t].now = orders.row[t];
        }
        return gain;
    }

    public int image() {
        kept.become(ground);
        hasImage = true;
        return 1;
    }

    public int restore() {
        if (!hasImage) {
            return NONE;
        }
        ground.become(kept);
        return 1;
    }

    // ---- 3 sheets

    public int hired(int sheet, int lane, int i, int tree) {
        if (!isSheet(sheet) || !isLane(lane) || tree != -1 && !ground.hasTree(tree)) {
            return BAD;
        }
        int fault = faultOf(sheet, lane, i, FRUITS);
        if (fault != 0) {
            return fault;
        }
        plan.lay(ground);
        wants.take(sheets[sheet], i);
        if (!wants.hireCheapest()) {
            return NONE;
        }
        return tree == -1 ? wants.wages : wants.found[tree];
    }

    public int night(int sheet, int lane, int i, int what) {
        if (!isSheet(sheet) || !isLane(lane) || !isWithin(what, 0, 1)) {
            return BAD;
        }
        int fault = faultOf(sheet, lane, i, ground.treeCount);
        if (fault != 0) {
            return fault;
        }
        for (int t = 0; t < ground.treeCount; t++) {
            fruits[t] = sheets[sheet].near(i + t, FRUITS);
        }
        plan.lay(ground);
        orders.layNights(fruits);
        if (what == 0) {
            return orders.ways;
        }
        return orders.ways == 0 ? NONE : orders.sure;
    }

    public int pie(int sheet, int lane, int i, int what) {
        if (!isSheet(sheet) || !isLane(lane) || !isWithin(what, 0, 1)) {
            return BAD;
        }
        int fault = faultOf(sheet, lane, i, FRUITS);
        if (fault != 0) {
            return fault;
        }
        plan.lay(ground);
        wants.take(sheets[sheet], i);
        wants.bakeAll();
        if (what == 0) {
            return wants.ways;
        }
        return wants.ways == 0 ? NONE : wants.foundDigits();
    }

    public int earned(int sheet, int lane, int i, int n, int m) {
        if (!isWithin(m, 0, MOST_ROTA_YEARS)) {
            return BAD - LOWER;
        }
        int fault = layRota(sheet, lane, i, n);
        return fault != 0 ? fault - LOWER : rota.valueOfYears(m);
    }

    public int again(int sheet, int lane, int i, int n, int what) {
        if (!isWithin(what, 0, 1)) {
            return BAD;
        }
        int fault = layRota(sheet, lane, i, n);
        if (fault != 0) {
            return fault;
        }
        if (!rota.findAgain()) {
            return NONE;
        }
        return what == 0 ? rota.yearsBehind : rota.yearsAhead;
    }

    public int film(int sheet, int lane, int i) {
        if (!isSheet(sheet) || !isLane(lane)) {
            return BAD;
        }
        int fault = faultOf(sheet, lane, i, FRUITS);
        if (fault != 0) {
            return fault;
        }
        for (int f = 0; f < FRUITS; f++) {
            sheets[sheet].put(i + f, ground.inBasket(f));
        }
        return FRUITS;
    }

    public int sheet(int sheet, int lane, int n) {
        if (!isSheet(sheet) || !isLane(lane) || n > MOST_ITEMS) {
            return BAD;
        }
        if (n < 0) {
            return SIZE;
        }
        sheets[sheet].begin(lane, n);
        return n;
    }

    public int drop(int sheet) {
        if (!isSheet(sheet)) {
            return BAD;
        }
        if (!sheets[sheet].isHeld) {
            return NULL;
        }
        sheets[sheet].isHeld = false;
        return sheets[sheet].length;
    }

    public int item(int sheet, int lane, int i, long v) {
        if (!isSheet(sheet) || !isLane(lane)) {
            return BAD;
        }
        int fault = faultOf(sheet, lane, i, 1);
        if (fault != 0) {
            return fault;
        }
        sheets[sheet].put(i, v);
        return 1;
    }

    public int copy(int from, int i, int to, int j, int n) {
        if (!isSheet(from) || !isSheet(to)) {
            return BAD;
        }
        Sheet source = sheets[from];
        Sheet target = sheets[to];
        if (!source.isHeld || !target.isHeld) {
            return NULL;
        }
        if (source.lane != target.lane) {
            return CAST;
        }
        if (!source.hasItems(i, n) || !target.hasItems(j, n)) {
            return INDEX;
        }
        System.arraycopy(source.items, i, target.items, j, n);
        return n;
    }

    // ---- what the calls share

    private static boolean isWithin(int v, int least, int most) {
        return v >= least && v <= most;
    }

    private static boolean isFruit(int fruit) {
        return isWithin(fruit, 0, FRUITS - 1);
    }

    private static boolean isSheet(int sheet) {
        return isWithin(sheet, 0, SHEETS - 1);
    }

    private static boolean isLane(int lane) {
        return isWithin(lane, 0, LANES - 1);
    }

    /** Whether v may become what a CLIMBER has: FRUIT (1), WAGE (2), ODDS (3); nothing else changes. */
    private static boolean isTrait(int what, int v) {
        switch (what) {
            case 1: return isWithin(v, 1, 9);
            case 2: return isWithin(v, 0, 99);
            case 3: return isWithin(v, 0, 10);
            default: return false;
        }
    }

    private static boolean isIn(int set, int climber) {
        return (set >> climber & 1) == 1;
    }

    /** The greatest common divisor with ten; ten for 0, so that 0 is 0 of 1. */
    private static int sharedWithTen(int tenths) {
        return (tenths % 2 == 0 ? 2 : 1) * (tenths % 5 == 0 ? 5 : 1);
    }

    /** Why n items of a SHEET from i on can't be taken as a row of a LANE; 0 if they can. */
    private int faultOf(int sheet, int lane, int i, int n) {
        Sheet one = sheets[sheet];
        if (!one.isHeld) {
            return NULL;
        }
        if (one.lane != lane) {
            return CAST;
        }
        return one.hasItems(i, n) ? 0 : INDEX;
    }

    /** Takes a ROTA from a SHEET: 0, or why it can't be. */
    private int layRota(int sheet, int lane, int i, int n) {
        if (!isSheet(sheet) || !isLane(lane) || !isWithin(n, 1, MOST_ROTA)) {
            return BAD;
        }
        int fault = faultOf(sheet, lane, i, n);
        if (fault != 0) {
            return fault;
        }
        return rota.take(sheets[sheet], i, n) ? 0 : NOT;
    }

    private static final class Climber {
        private int kind;
        private int fruit;
        private int wage;
        private int odds;

        void become(int kind, int fruit, int wage, int odds) {
            this.kind = kind;
            this.fruit = fruit;
            this.wage = wage;
            this.odds = odds;
        }

        int trait(int what) {
            switch (what) {
                case 0: return kind;
                case 1: return fruit;
                case 2: return wage;
                case 3: return odds;
                default: return brings();
            }
        }

        void change(int what, int v) {
            switch (what) {
                case 1: fruit = v; break;
                case 2: wage = v; break;
                default: odds = v; break;
            }
        }

        int brings() {
            return kind == LIAR || kind == FOX ? FRUITS - fruit : fruit;
        }

        boolean isMonk() {
            return kind == MONK;
        }

        /** The ODDS that count: a FOX never falls, whatever its ODDS are told to be. */
        int fallOdds() {
            return kind == FOX ? 0 : odds;
        }
    }

    private static final class Tree {
        private int kind;
        private int now;
        private int last;
        private int before;
        private boolean lastFell;
        private boolean beforeFell;
        private int fence;

        void begin(int kind, int last, int before) {
            this.kind = kind;
            this.now = NOBODY;
            this.last = last;
            this.before = before;
            this.lastFell = false;
            this.beforeFell = false;
            this.fence = 0;
        }

        void becomeCuttingOf(Tree other) {
            begin(other.kind, other.last, other.before);
            lastFell = other.lastFell;
            beforeFell = other.beforeFell;
        }

        void become(Tree other) {
            becomeCuttingOf(other);
            now = other.now;
            fence = other.fence;
        }

        int mark(int what) {
            switch (what) {
                case 0: return kind;
                case 1: return now;
                case 2: return last;
                case 3: return before;
                case 4: return lastFell ? 1 : 0;
                case 5: return beforeFell ? 1 : 0;
                default: return fence;
            }
        }

        void passYear(boolean nowFell) {
            before = last;
            beforeFell = lastFell;
            last = now;
            lastFell = nowFell;
            now = NOBODY;
        }

        /** How many a TREE bears of what LAST brings. */
        static int shareOfLast(int kind, boolean fell) {
            int plain = fell ? 1 : 2;
            switch (kind) {
                case GRAFTED: return plain / 2;
                case DOUBLE: return plain * 2;
                case SLOW: return 0;
                default: return plain;
            }
        }

        /** How many a TREE bears of what BEFORE brings. */
        static int shareOfBefore(int kind, boolean fell) {
            int plain = fell ? 1 : 2;
            switch (kind) {
                case GRAFTED: return plain / 2;
                case SLOW: return plain;
                default: return 0;
            }
        }
    }

    /** All that an IMAGE keeps. */
    private static final class Ground {
        private final Tree[] trees = new Tree[MOST_TREES];
        private final Climber[] climbers = new Climber[MOST_CLIMBERS];
        private final int[] prices = new int[FRUITS];
        private int treeCount;
        private int climberCount;
        private int draw = 1;
        private int years;
        private int fell;

        Ground() {
            for (int t = 0; t < MOST_TREES; t++) {
                trees[t] = new Tree();
            }
            for (int c = 0; c < MOST_CLIMBERS; c++) {
                climbers[c] = new Climber();
            }
            for (int f = 0; f < FRUITS; f++) {
                prices[f] = f;
            }
        }

        void become(Ground other) {
            for (int t = 0; t < MOST_TREES; t++) {
                trees[t].become(other.trees[t]);
            }
            for (int c = 0; c < MOST_CLIMBERS; c++) {
                Climber one = other.climbers[c];
                climbers[c].become(one.kind, one.fruit, one.wage, one.odds);
            }
            System.arraycopy(other.prices, 0, prices, 0, FRUITS);
            treeCount = other.treeCount;
            climberCount = other.climberCount;
            draw = other.draw;
            years = other.years;
            fell = other.fell;
        }

        int plant(int kind) {
            trees[treeCount].begin(kind, NOBODY, NOBODY);
            return treeCount++;
        }

        int plantCutting(int tree) {
            trees[treeCount].becomeCuttingOf(trees[tree]);
            return treeCount++;
        }

        int welcome(int kind, int fruit, int wage, int odds) {
            climbers[climberCount].become(kind, fruit, wage, odds);
            return climberCount++;
        }

        boolean hasTree(int tree) {
            return isWithin(tree, 0, treeCount - 1);
        }

        boolean hasClimber(int climber) {
            return isWithin(climber, 0, climberCount - 1);
        }

        boolean isFolk(int climber) {
            return climber == NOBODY || hasClimber(climber);
        }

        boolean isSet(int set) {
            return isWithin(set, 0, (1 << climberCount) - 1);
        }

        int brought(int climber) {
            return hasClimber(climber) ? climbers[climber].brings() : STONES;
        }

        private int oddsOf(int climber) {
            return hasClimber(climber) ? climbers[climber].fallOdds() : 0;
        }

        boolean mayClimbNow(int tree, int climber) {
            if (!hasClimber(climber)) {
                return true;
            }
            return !isIn(trees[tree].fence, climber)
                && (climbers[climber].isMonk() || !climbsElsewhere(tree, climber));
        }

        private boolean climbsElsewhere(int tree, int climber) {
            for (int t = 0; t < treeCount; t++) {
                if (t != tree && trees[t].now == climber) {
                    return true;
                }
            }
            return false;
        }

        int climbersNow() {
            int set = 0;
            for (int t = 0; t < treeCount; t++) {
                set |= 1 << trees[t].now;
            }
            return set & ~(1 << NOBODY);
        }

        int borne(int tree, int fruit) {
            Tree one = trees[tree];
            int ofLast = brought(one.last) == fruit ? Tree.shareOfLast(one.kind, one.lastFell) : 0;
            int ofBefore = brought(one.before) == fruit ? Tree.shareOfBefore(one.kind, one.beforeFell) : 0;
            return ofLast + ofBefore;
        }

        private int borneNext(int tree, int fruit) {
            Tree one = trees[tree];
            int ofNow = brought(one.now) == fruit ? Tree.shareOfLast(one.kind, false) : 0;
            int ofLast = brought(one.last) == fruit ? Tree.shareOfBefore(one.kind, one.lastFell) : 0;
            return ofNow + ofLast;
        }

        int inBasket(int fruit) {
            int sum = 0;
            for (int t = 0; t < treeCount; t++) {
                sum += borne(t, fruit);
            }
            return sum;
        }

        int inNext(int fruit) {
            int sum = 0;
            for (int t = 0; t < treeCount; t++) {
                sum += borneNext(t, fruit);
            }
            return sum;
        }

        int basketValue() {
            int sum = 0;
            for (int f = 0; f < FRUITS; f++) {
                sum += inBasket(f) * prices[f];
            }
            return sum;
        }

        int nextValue() {
            int sum = 0;
            for (int f = 0; f < FRUITS; f++) {
                sum += inNext(f) * prices[f];
            }
            return sum;
        }

        int priceOfBrought(int climber) {
            return prices[brought(climber)];
        }

        /** EXPECTED in tenths: ODDS are tenths, and each TREE's mean is a sum of single falls. */
        int expectedTenths() {
            int sum = 0;
            for (int t = 0; t < treeCount; t++) {
                Tree one = trees[t];
                int odds = oddsOf(one.now);
                int ofNow = Tree.shareOfLast(one.kind, false) * (TENTHS - odds)
                    + Tree.shareOfLast(one.kind, true) * odds;
                int ofLast = Tree.shareOfBefore(one.kind, one.lastFell) * TENTHS;
                sum += ofNow * priceOfBrought(one.now) + ofLast * priceOfBrought(one.last);
            }
            return sum;
        }

        int passYear() {
            fell = 0;
            for (int t = 0; t < treeCount; t++) {
                Tree one = trees[t];
                boolean falls = one.now != NOBODY && drawByTen() < oddsOf(one.now);
                if (falls) {
                    fell++;
                }
                one.passYear(falls);
            }
            years++;
            return fell;
        }

        private int drawByTen() {
            draw = (draw * 1103515245 + 12345) & LOWEST_31_BITS;
            return draw / 65536 % 10;
        }
    }

    /** THE TAPE, and what is read from it before it takes the place of TREES. */
    private static final class Tape {
        private final int[] letters = new int[MOST_LETTERS];
        private final int[] kinds = new int[MOST_TREES];
        private final int[] lasts = new int[MOST_TREES];
        private final int[] befores = new int[MOST_TREES];
        private int length;
        private int place;

        int write(int letter) {
            letters[length] = letter;
            length++;
            return length;
        }

        /** How many TREES the text tells of, or a FAULT. */
        int parse(int climberCount) {
            place = 0;
            for (int count = 1; count <= MOST_TREES && parseTree(count - 1, climberCount); count++) {
                int letter = peek();
                if (place == length) {
                    return count;
                }
                if (letter != ',' || count == MOST_TREES) {
                    break;
                }
                place++;
            }
            return FAULT - place;
        }

        private boolean parseTree(int t, int climberCount) {
            int kind = KIND_LETTERS.indexOf((char) peek());
            if (kind < 0) {
                return false;
            }
            place++;
            kinds[t] = kind;
            lasts[t] = parseClimber(climberCount);
            befores[t] = parseClimber(climberCount);
            return true;
        }

        /** Nobody where no letter of a CLIMBER stands: what stands there is judged as what comes next. */
        private int parseClimber(int climberCount) {
            int climber = peek() - 'a';
            if (climber != NOBODY && !isWithin(climber, 0, climberCount - 1)) {
                return NOBODY;
            }
            place++;
            return climber;
        }

        /** The next letter behind blanks; 0 at the end, which no letter is. */
        private int peek() {
            while (place < length && letters[place] == ' ') {
                place++;
            }
            return place < length ? letters[place] : 0;
        }

        void plantAll(Ground ground, int count) {
            for (int t = 0; t < count; t++) {
                ground.trees[t].begin(kinds[t], lasts[t], befores[t]);
            }
            ground.treeCount = count;
        }
    }

    /** Holds room for the longest row of the widest LANE, so that a new row makes no object. */
    private static final class Sheet {
        private final long[] items = new long[MOST_ITEMS];
        private boolean isHeld;
        private int lane;
        private int length;

        void begin(int lane, int length) {
            Arrays.fill(items, 0L);
            this.lane = lane;
            this.length = length;
            this.isHeld = true;
        }

        boolean hasItems(int i, int n) {
            return n >= 0 && n <= length && isWithin(i, 0, length - n);
        }

        void put(int i, long v) {
            switch (lane) {
                case BYTES: items[i] = (byte) v; break;
                case SHORTS: items[i] = (short) v; break;
                case INTS: items[i] = (int) v; break;
                default: items[i] = v; break;
            }
        }

        /** An item as an int: -1 for all below 0, most for all above it. */
        int near(int i, int most) {
            long v = items[i];
            return v < 0 ? -1 : v > most ? most : (int) v;
        }
    }

    /** What NEXT would be by each one in each TREE: laid anew for each call that weighs ORDERS. */
    private static final class Plan {
        private final int[] open = new int[MOST_TREES];
        private final int[] shares = new int[MOST_TREES];
        private final int[] keptShares = new int[MOST_TREES];
        private final int[] keptFruits = new int[MOST_TREES];
        private final int[] shareSums = new int[MOST_TREES + 1];
        private final int[] values = new int[MOST_TREES * FOLK];
        private final int[] fruits = new int[FOLK];
        private final int[] wages = new int[FOLK];
        private int treeCount;
        private int all;
        private int monks;

        void lay(Ground ground) {
            treeCount = ground.treeCount;
            all = (1 << ground.climberCount) - 1;
            layFolk(ground);
            shareSums[treeCount] = 0;
            for (int t = treeCount - 1; t >= 0; t--) {
                layTree(t, ground);
                shareSums[t] = shareSums[t + 1] + shares[t];
            }
        }

        private void layFolk(Ground ground) {
            monks = 0;
            for (int c = 0; c < FOLK; c++) {
                fruits[c] = ground.brought(c);
                wages[c] = 0;
                if (ground.hasClimber(c)) {
                    wages[c] = ground.climbers[c].wage;
                    monks |= ground.climbers[c].isMonk() ? 1 << c : 0;
                }
            }
        }

        private void layTree(int t, Ground ground) {
            Tree one = ground.trees[t];
            open[t] = all & ~one.fence;
            shares[t] = Tree.shareOfLast(one.kind, false);
            keptShares[t] = Tree.shareOfBefore(one.kind, one.lastFell);
            keptFruits[t] = ground.brought(one.last);
            int keptValue = keptShares[t] * ground.priceOfBrought(one.last);
            for (int c = 0; c < FOLK; c++) {
                values[t * FOLK + c] = shares[t] * ground.priceOfBrought(c) + keptValue;
            }
        }

        /** CLIMBERS who may climb a TREE when others are in TREES already. */
        int freeClimbers(int t, int used) {
            return open[t] & ~(used & ~monks);
        }

        /** The same with nobody, who may stand in any TREE. */
        int freeFolk(int t, int used) {
            return freeClimbers(t, used) | 1 << NOBODY;
        }

        int join(int used, int climber) {
            return climber == NOBODY ? used : used | 1 << climber;
        }

        int newWage(int used, int climber) {
            return isIn(used, climber) ? 0 : wages[climber];
        }

        int valueBy(int t, int climber) {
            return values[t * FOLK + climber];
        }

        boolean wouldBear(int t, int climber, int fruit) {
            return shares[t] > 0 && fruits[climber] == fruit || keptShares[t] > 0 && keptFruits[t] == fruit;
        }
    }

    /** ORDERS by a table: what is to come in later TREES hangs on none but who climbs already. */
    private static final class Orders {
        private final Plan plan;
        private final int[] table = new int[(MOST_TREES + 1) * SETS];
        private final int[] row = new int[MOST_TREES];
        private int ways;
        private int sure;
        private int allowed;
        private int shut;

        Orders(Plan plan) {
            this.plan = plan;
        }

        /** GAIN of BEST of ORDERS of some CLIMBERS, to whom some TREES are shut. */
        int mostGain(int climbers, int shutTrees) {
            allowed = climbers;
            shut = shutTrees;
            Arrays.fill(table, 0);
            for (int t = plan.treeCount - 1; t >= 0; t--) {
                for (int used = 0; used <= plan.all; used++) {
                    table[t * SETS + used] = mostFrom(t, used);
                }
            }
            return table[0];
        }

        private int mostFrom(int t, int used) {
            int free = freeAllowed(t, used);
            int most = gainFrom(t, used, NOBODY);
            for (int c = 0; c < NOBODY; c++) {
                if (isIn(free, c)) {
                    most = Math.max(most, gainFrom(t, used, c));
                }
            }
            return most;
        }

        private int freeAllowed(int t, int used) {
            return isIn(shut, t) ? 0 : plan.freeClimbers(t, used) & allowed;
        }

        private int gainFrom(int t, int used, int climber) {
            int later = table[(t + 1) * SETS + plan.join(used, climber)];
            return plan.valueBy(t, climber) - plan.newWage(used, climber) + later;
        }

        /** The first row of the most GAIN; to be called behind mostGain. */
        void layRow() {
            int used = 0;
            for (int t = 0; t < plan.treeCount; t++) {
                row[t] = firstOfMost(t, used);
                used = plan.join(used, row[t]);
            }
        }

        private int firstOfMost(int t, int used) {
            int free = freeAllowed(t, used);
            for (int c = 0; c < NOBODY; c++) {
                if (isIn(free, c) && gainFrom(t, used, c) == table[t * SETS + used]) {
                    return c;
                }
            }
            return NOBODY;
        }

        int fewestShut(int climbers, int gain) {
            int allTrees = (1 << plan.treeCount) - 1;
            // Shutting more TREES never raises the GAIN: if all of them won't do, none will.
            if (mostGain(climbers, allTrees) > gain) {
                return NONE;
            }
            for (int size = 0; size < plan.treeCount; size++) {
                for (int set = 0; set <= allTrees; set++) {
                    if (Integer.bitCount(set) == size && mostGain(climbers, set) <= gain) {
                        return set;
                    }
                }
            }
            return allTrees;
        }

        /** NIGHT: how many ORDERS bear these FRUITS, and who climbs in all of them. */
        void layNights(int[] fruits) {
            Arrays.fill(table, 0);
            table[0] = 1;
            for (int t = 0; t < plan.treeCount; t++) {
                for (int used = 0; used <= plan.all; used++) {
                    if (table[t * SETS + used] > 0) {
                        spreadWays(t, used, fruits[t]);
                    }
                }
            }
            ways = 0;
            sure = plan.all;
            for (int used = 0; used <= plan.all; used++) {
                int there = table[plan.treeCount * SETS + used];
                ways += there;
                sure &= there > 0 ? used : plan.all;
            }
        }

        private void spreadWays(int t, int used, int fruit) {
            int free = plan.freeFolk(t, used);
            for (int c = 0; c < FOLK; c++) {
                if (isIn(free, c) && (fruit < 0 || plan.wouldBear(t, c, fruit))) {
                    table[(t + 1) * SETS + plan.join(used, c)] += table[t * SETS + used];
                }
            }
        }
    }

    /** HIRED and PIE: ORDERS looked through in their order as rows, by how many of each FRUIT are told. */
    private static final class Wants {
        /** More of a FRUIT than all TREES can bear: a greater number wanted is as impossible. */
        private static final int MORE_THAN_ALL = 1000;
        /** More than the WAGES of all CLIMBERS. */
        private static final int NOT_FOUND = 1000;

        private final Plan plan;
        private final int[] lacks = new int[FRUITS];
        private final int[] row = new int[MOST_TREES];
        private final int[] found = new int[MOST_TREES];
        private int wages;
        private int ways;

        Wants(Plan plan) {
            this.plan = plan;
        }

        /** What is wanted, less what NEXT has by LAST already, whoever climbs. */
        void take(Sheet sheet, int i) {
            for (int f = 0; f < FRUITS; f++) {
                lacks[f] = Math.max(0, sheet.near(i + f, MORE_THAN_ALL));
            }
            for (int t = 0; t < plan.treeCount; t++) {
                lacks[plan.keptFruits[t]] -= plan.keptShares[t];
            }
        }

        boolean hireCheapest() {
            int lack = 0;
            for (int f = 0; f < FRUITS; f++) {
                lack += Math.max(0, lacks[f]);
            }
            wages = NOT_FOUND;
            hireFrom(0, 0, 0, lack);
            return wages < NOT_FOUND;
        }

        private void hireFrom(int t, int used, int paid, int lack) {
            // Rows come in their order, so one that costs no less than the found one is not better.
            if (paid >= wages || lack > plan.shareSums[t]) {
                return;
            }
            if (t >= plan.treeCount) {
                wages = paid;
                System.arraycopy(row, 0, found, 0, MOST_TREES);
                return;
            }
            int free = plan.freeFolk(t, used);
            for (int c = 0; c < FOLK; c++) {
                if (isIn(free, c)) {
                    int fruit = plan.fruits[c];
                    int had = lacks[fruit];
                    int has = had - plan.shares[t];
                    lacks[fruit] = has;
                    row[t] = c;
                    int lackThen = lack - Math.max(0, had) + Math.max(0, has);
                    hireFrom(t + 1, plan.join(used, c), paid + plan.newWage(used, c), lackThen);
                    lacks[fruit] = had;
                }
            }
        }

        void bakeAll() {
            ways = 0;
            int sum = 0;
            for (int f = 0; f < FRUITS; f++) {
                if (lacks[f] < 0) {
                    return;
                }
                sum += lacks[f];
            }
            // All ORDERS bring equally many FRUITS; so with no FRUIT too many, none lacks in the end.
            if (sum == plan.shareSums[0]) {
                bakeFrom(0, 0);
            }
        }

        private void bakeFrom(int t, int used) {
            if (t >= plan.treeCount) {
                if (ways == 0) {
                    System.arraycopy(row, 0, found, 0, MOST_TREES);
                }
                ways++;
                return;
            }
            int free = plan.freeFolk(t, used);
            for (int c = 0; c < FOLK; c++) {
                int fruit = plan.fruits[c];
                if (isIn(free, c) && lacks[fruit] >= plan.shares[t]) {
                    lacks[fruit] -= plan.shares[t];
                    row[t] = c;
                    bakeFrom(t + 1, plan.join(used, c));
                    lacks[fruit] += plan.shares[t];
                }
            }
        }

        int foundDigits() {
            int digits = 0;
            for (int t = 0; t < plan.treeCount; t++) {
                digits = digits * FOLK + found[t];
            }
            return digits;
        }
    }

    /** A GAME: what is to come hangs on the TREES taken, on who can't climb again, and on whose turn it is. */
    private static final class Villages {
        /** Less than any GAME comes to. */
        private static final int UNKNOWN = -1000000;

        private final Plan plan;
        private final int[] outcomes = new int[(1 << MOST_TREES) * SETS * 2];
        private int own;

        Villages(Plan plan) {
            this.plan = plan;
        }

        int outcome(int set) {
            own = set;
            Arrays.fill(outcomes, UNKNOWN);
            return outcomeFrom(0, 0, 0, false);
        }

        private int outcomeFrom(int taken, int climbed, int side, boolean isPassed) {
            int at = (taken * SETS + climbed) * 2 + side;
            if (outcomes[at] == UNKNOWN) {
                int sent = sendBest(taken, climbed, side);
                if (sent == UNKNOWN) {
                    sent = isPassed ? 0 : outcomeFrom(taken, climbed, 1 - side, true);
                }
                outcomes[at] = sent;
            }
            return outcomes[at];
        }

        /** UNKNOWN if that side can send none. */
        private int sendBest(int taken, int climbed, int side) {
            int best = UNKNOWN;
            for (int t = 0; t < plan.treeCount; t++) {
                int free = isIn(taken, t) ? 0 : plan.freeClimbers(t, climbed) & (side == 0 ? own : ~own);
                for (int c = 0; c < NOBODY; c++) {
                    if (isIn(free, c)) {
                        int later = outcomeFrom(taken | 1 << t, climbed | (1 << c & ~plan.monks), 1 - side, false);
                        int sent = later + (side == 0 ? plan.valueBy(t, c) : -plan.valueBy(t, c));
                        best = best == UNKNOWN || (side == 0 ? sent > best : sent < best) ? sent : best;
                    }
                }
            }
            return best;
        }
    }

    /** A ROTA of CLIMBERS over the YEARS from now on, in which nobody falls. */
    private static final class Rota {
        private final Ground ground;
        private final int[] places = new int[MOST_ROTA];
        private int length = 1;
        private int yearsBehind;
        private int yearsAhead;

        Rota(Ground ground) {
            this.ground = ground;
        }

        /** Whether n items are all CLIMBERS or nobody. */
        boolean take(Sheet sheet, int i, int n) {
            length = n;
            for (int k = 0; k < n; k++) {
                places[k] = sheet.near(i + k, FOLK);
                if (!ground.isFolk(places[k])) {
                    return false;
                }
            }
            return true;
        }

        int valueOfYears(int years) {
            int sum = 0;
            for (int y = 1; y <= years; y++) {
                for (int t = 0; t < ground.treeCount; t++) {
                    sum += valueBehind(t, y);
                }
            }
            return sum;
        }

        private int valueBehind(int t, int years) {
            int kind = ground.trees[t].kind;
            int ofLast = Tree.shareOfLast(kind, lastFellBehind(t, years));
            int ofBefore = Tree.shareOfBefore(kind, beforeFellBehind(t, years));
            return ofLast * ground.priceOfBrought(lastBehind(t, years))
                + ofBefore * ground.priceOfBrought(beforeBehind(t, years));
        }

        private int lastBehind(int t, int years) {
            return years == 0 ? ground.trees[t].last : places[(years - 1 + t) % length];
        }

        private int beforeBehind(int t, int years) {
            return years == 0 ? ground.trees[t].before : lastBehind(t, years - 1);
        }

        private boolean lastFellBehind(int t, int years) {
            return years == 0 && ground.trees[t].lastFell;
        }

        private boolean beforeFellBehind(int t, int years) {
            return years == 0 ? ground.trees[t].beforeFell : lastFellBehind(t, years - 1);
        }

        boolean findAgain() {
            for (int y = 1; y <= MOST_ROTA_YEARS; y++) {
                // The same place of the ROTA is there each length YEARS.
                for (int x = y - length; x >= 0; x -= length) {
                    if (areAlike(x, y)) {
                        yearsBehind = y;
                        yearsAhead = y - x;
                        return true;
                    }
                }
            }
            return false;
        }

        private boolean areAlike(int x, int y) {
            for (int t = 0; t < ground.treeCount; t++) {
                if (lastBehind(t, x) != lastBehind(t, y) || beforeBehind(t, x) != beforeBehind(t, y)
                    || lastFellBehind(t, x) != lastFellBehind(t, y)
                    || beforeFellBehind(t, x) != beforeFellBehind(t, y)) {
                    return false;
                }
            }
            return true;
        }
    }
}
