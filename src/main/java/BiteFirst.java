/**
 * Bite first, price after: goods of ten cells, eaters of kinds who bite them by their jaws and
 * pay by the mark that is left, at prices that texts of a small language tell.
 */
public final class BiteFirst {

    public static final int NONE = -1, BAD = -2, STATE = -3, FULL = -4;
    public static final long NO = -4611686018427387904L;

    private static final int NO_SUCH = -5, NO_SUCH_EATER = -6, NOT_AS_TOLD = -7;
    private static final int NOTHING_THERE = -11, OUTSIDE = -12, OF_ANOTHER = -13, SIZE_BELOW = -14;
    private static final int NO_SUCH_DUEL = -1000005, DUEL_NOT_AS_TOLD = -1000007;
    private static final int FAULT_BASE = -100;

    private static final int GOODS = 6, EATERS = 5, TEXTS = 6, SHEETS = 4;
    private static final int CELLS = 10, ALL_CELLS = 1023, PLACES = 16, PLACE_OF_BIT_0 = 6;
    private static final int KINDS = 6, MORES = 10, JAWS = 63;
    private static final int MOST_WORTH = 99, MOST_SOFT = 9, MOST_PURSE = 9999, MOST_HAD = 9999;
    private static final int MOST_DAY = 99, MOST_SEED = 99999, MOST_LOTS = 60, MOST_SEEDS = 40;
    private static final int MOST_TURNS = 13, MOST_TEETH = 5, MOST_FED = 5;
    private static final int TAPE_BYTES = 160, SHEET_NUMBERS = 40;

    private static final String FIRST_TEXT = "pays cells * 2 ; likes worth ; waits 0 ;";

    private final Tape tape = new Tape();
    private final Text[] texts = new Text[TEXTS];
    private int textCount;
    private final Scene now;
    private final Scene imaged;
    private boolean hasImage;
    private final Thought thought;
    private final Fitting fitting = new Fitting();
    private final Cover cover = new Cover();
    private final Sheet[] sheets = new Sheet[SHEETS];

    public BiteFirst() {
        tape.write(FIRST_TEXT);
        tape.findFault();
        Text first = tape.made(0);
        tape.clear();
        texts[0] = first;
        textCount = 1;
        now = new Scene(first);
        imaged = new Scene(first);
        thought = new Thought(first);
        for (int s = 0; s < SHEETS; s++) {
            sheets[s] = new Sheet();
        }
    }

    // ---- the day, the law

    public int count(int what) {
        switch (what) {
            case 0: return now.eaterCount;
            case 1: return now.goodCount;
            case 2: return now.day;
            case 3: return textCount;
            case 4: return now.law.number;
            case 5: return tape.size();
            default: return BAD;
        }
    }

    public int set(int v) {
        if (!within(v, 0, MOST_DAY)) {
            return NOT_AS_TOLD;
        }
        int was = now.day;
        now.day = v;
        return was;
    }

    public int feed(int n, int a, int b, int c, int d, int e) {
        if (!within(n, 1, MOST_FED) || !isByte(a) || !isByte(b) || !isByte(c) || !isByte(d) || !isByte(e)) {
            return BAD;
        }
        if (n > tape.room()) {
            return FULL;
        }
        tape.add(a);
        if (n > 1) {
            tape.add(b);
        }
        if (n > 2) {
            tape.add(c);
        }
        if (n > 3) {
            tape.add(d);
        }
        if (n > 4) {
            tape.add(e);
        }
        return tape.size();
    }

    public int text() {
        if (textCount >= TEXTS) {
            return FULL;
        }
        int fault = tape.findFault();
        if (fault < 0) {
            texts[textCount] = tape.made(textCount);
            textCount++;
        }
        tape.clear();
        return fault < 0 ? textCount - 1 : FAULT_BASE - fault;
    }

    public int force(int t) {
        Text next = textAt(t);
        if (next == null) {
            return BAD;
        }
        int was = now.law.number;
        now.law = next;
        return was;
    }

    public int asks(int part, int e, int g, int cellsWorth) {
        Eater one = now.eaterAt(e);
        Good of = now.goodAt(g);
        if (!within(part, Text.PAYS, Text.WAITS) || one == null || of == null
                || !within(cellsWorth, 0, 100 * CELLS + MOST_WORTH)) {
            return BAD;
        }
        return now.said(part, one, of, cellsWorth / 100, cellsWorth % 100);
    }

    // ---- goods, eaters

    public int good(int softness, int worth) {
        if (!within(softness, 0, MOST_SOFT) || !within(worth, 0, MOST_WORTH)) {
            return BAD;
        }
        return now.addGood(softness, worth);
    }

    public int put(int g, int what, int v) {
        Good of = now.goodAt(g);
        if (of == null) {
            return NO_SUCH;
        }
        if (!within(what, 0, Good.PARTS - 1) || !within(v, 0, Good.mostOf(what))) {
            return NOT_AS_TOLD;
        }
        int was = of.readPart(what);
        of.writePart(what, v);
        return was;
    }

    public int part(int g, int what) {
        Good of = now.goodAt(g);
        if (of == null) {
            return NO_SUCH;
        }
        return within(what, 0, Good.PARTS - 1) ? of.readPart(what) : NOT_AS_TOLD;
    }

    public int eater(int kindMore, int jaw) {
        return comeEater(kindMore, jaw);
    }

    public int told(int e, int what) {
        Eater one = now.eaterAt(e);
        if (one == null) {
            return NO_SUCH;
        }
        switch (what) {
            case 0: return one.kind;
            case 1: return one.more;
            case 2: return one.jaw;
            case 3: return one.purse;
            case 4: return one.had;
            default: return NOT_AS_TOLD;
        }
    }

    public int lend(int e, int what, int v) {
        Eater one = now.eaterAt(e);
        if (one == null) {
            return NO_SUCH;
        }
        if (what == 0 && within(v, 1, JAWS)) {
            int was = one.jaw;
            one.jaw = v;
            return was;
        }
        if (what == 1 && within(v, 0, MOST_PURSE)) {
            int was = one.purse;
            one.purse = v;
            return was;
        }
        return NOT_AS_TOLD;
    }

    public int shape(int e, int g) {
        Eater one = now.eaterAt(e);
        Good of = now.goodAt(g);
        if (one == null || of == null) {
            return NO_SUCH;
        }
        return one.shapeIn(of);
    }

    // ---- bites

    public int mark(int e, int g, int at, int what) {
        Eater one = now.eaterAt(e);
        Good from = now.goodAt(g);
        if (one == null || from == null) {
            return NO_SUCH;
        }
        if (!isPlace(at) || !within(what, 0, 2)) {
            return NOT_AS_TOLD;
        }
        int bits = one.markOf(from, at);
        if (what == 0) {
            return bits;
        }
        return what == 1 ? now.costOf(one, from, bits) : now.worthOf(one, from, bits);
    }

    public int bite(int e, int g, int at) {
        Eater one = now.eaterAt(e);
        Good from = now.goodAt(g);
        if (one == null || from == null) {
            return NO_SUCH;
        }
        if (!isPlace(at)) {
            return NOT_AS_TOLD;
        }
        int bits = one.markOf(from, at);
        if (bits == 0) {
            return STATE;
        }
        int cost = now.costOf(one, from, bits);
        if (cost > one.purse) {
            return FULL;
        }
        now.tryBite(one, from, at);
        return cost;
    }

    public int best(int e, int what) {
        Eater one = now.eaterAt(e);
        if (one == null) {
            return NO_SUCH;
        }
        if (!within(what, 0, 1)) {
            return NOT_AS_TOLD;
        }
        now.findBest(one);
        return what == 0 ? now.bestBite : now.bestGain;
    }

    public int orderly(int what) {
        if (!within(what, 0, 1)) {
            return BAD;
        }
        if (now.eaterCount == 0) {
            return what == 0 ? NONE : 0;
        }
        thought.startFrom(now);
        thought.tryOrders(0, 0, 0, 0);
        return what == 0 ? thought.order : thought.orderGains;
    }

    public int duel(int me, int you, int turns, int what) {
        thought.startFrom(now);
        Eater one = thought.scene.eaterAt(me);
        Eater other = thought.scene.eaterAt(you);
        if (one == null || other == null || me == you) {
            return NO_SUCH_DUEL;
        }
        if (!within(turns, 1, 2) || !within(what, 0, 1)) {
            return DUEL_NOT_AS_TOLD;
        }
        int comesTo = thought.tryDuel(one, other, turns);
        return what == 0 ? comesTo : thought.duelBite;
    }

    public int fewest(int e, int g) {
        Eater one = now.eaterAt(e);
        Good of = now.goodAt(g);
        if (one == null || of == null) {
            return NO_SUCH;
        }
        return cover.fewestBites(one.shapeIn(of), of.left);
    }

    public int soonest(int g, int what) {
        Good of = now.goodAt(g);
        if (of == null) {
            return NO_SUCH;
        }
        if (!within(what, 0, 1)) {
            return NOT_AS_TOLD;
        }
        int who = NONE;
        int least = NONE;
        for (int e = 0; e < now.eaterCount; e++) {
            int bites = cover.fewestBites(now.eaters[e].shapeIn(of), of.left);
            if (bites >= 0 && (who < 0 || bites < least)) {
                who = e;
                least = bites;
            }
        }
        return what == 0 ? who : least;
    }

    public int hire(int e, int what) {
        Eater one = now.eaterAt(e);
        if (one == null) {
            return NO_SUCH;
        }
        if (!within(what, 0, 1)) {
            return NOT_AS_TOLD;
        }
        int teeth = fitting.findTeeth(now, one);
        return what == 0 ? teeth : fitting.gain;
    }

    // ---- marks

    public int whose(int g, int mark) {
        Good from = now.goodAt(g);
        if (from == null) {
            return NO_SUCH;
        }
        if (!isMarkOf(from, mark)) {
            return NOT_AS_TOLD;
        }
        int bits = 0;
        for (int e = 0; e < now.eaterCount; e++) {
            if (now.eaters[e].canLeave(from, mark)) {
                bits |= 1 << e;
            }
        }
        return bits;
    }

    public int kinds(int e, int g, int mark, int sort) {
        Eater one = now.eaterAt(e);
        Good from = now.goodAt(g);
        if (one == null) {
            return NO_SUCH_EATER;
        }
        if (from == null) {
            return NO_SUCH;
        }
        if (!isMarkOf(from, mark)) {
            return NOT_AS_TOLD;
        }
        switch (sort) {
            case 0: return fitting.kindsLeaving(one, from, mark);
            case 1: return fitting.moresLeaving(one, from, mark);
            case 2: return fitting.countJaws(one, from, mark);
            case 3: return fitting.leastJaw(one, from, mark);
            default: return NOT_AS_TOLD;
        }
    }

    // ---- told days

    public int judge(int s) {
        int refusal = refusalOfDay(s);
        if (refusal != 0) {
            return refusal;
        }
        thought.startFrom(now);
        return thought.followDay(sheets[s]);
    }

    public int ends(int s, int of, int what) {
        int refusal = refusalOfDay(s);
        if (refusal != 0) {
            return refusal;
        }
        if (!within(what, 0, 2)) {
            return NOT_AS_TOLD;
        }
        thought.startFrom(now);
        thought.followDay(sheets[s]);
        if (what == 2) {
            Good good = thought.scene.goodAt(of);
            return good == null ? NO_SUCH : good.left;
        }
        Eater one = thought.scene.eaterAt(of);
        if (one == null) {
            return NO_SUCH;
        }
        return what == 0 ? one.had : one.purse;
    }

    public int laws(int s) {
        int refusal = refusalOfDay(s);
        if (refusal != 0) {
            return refusal;
        }
        int bits = 0;
        for (int t = 0; t < textCount; t++) {
            thought.startFrom(now);
            thought.scene.law = texts[t];
            if (thought.followDay(sheets[s]) == NONE) {
                bits |= 1 << t;
            }
        }
        return bits;
    }

    public int film(int s, int n) {
        Sheet row = sheetAt(s);
        if (row == null || !within(n, 0, MOST_TURNS)) {
            return BAD;
        }
        thought.startFrom(now);
        return thought.takeTurns(n, row);
    }

    // ---- days by lots

    public int drawn(int seed, int n, int e, int what) {
        thought.startFrom(now);
        Eater one = thought.scene.eaterAt(e);
        if (one == null) {
            return NO_SUCH;
        }
        if (!within(seed, 0, MOST_SEED) || !within(n, 0, MOST_LOTS) || !within(what, 0, 1)) {
            return NOT_AS_TOLD;
        }
        if (now.goodCount == 0) {
            return STATE;
        }
        thought.drawDay(seed, n);
        return what == 0 ? one.had : one.purse;
    }

    public long odds(int seed, int bitesSeeds, int e, int want, int part) {
        thought.startFrom(now);
        Eater one = thought.scene.eaterAt(e);
        if (!within(seed, 0, MOST_SEED) || bitesSeeds < 0 || one == null
                || !within(want, 0, MOST_HAD) || !within(part, 0, 1) || now.goodCount == 0) {
            return NO;
        }
        int lots = bitesSeeds / 100;
        int seeds = bitesSeeds % 100;
        if (lots > MOST_LOTS || !within(seeds, 1, MOST_SEEDS)) {
            return NO;
        }
        int above = 0;
        for (int k = 0; k < seeds; k++) {
            thought.startFrom(now);
            thought.drawDay(seed + k, lots);
            if (one.had >= want) {
                above++;
            }
        }
        int divisor = commonDivisor(above, seeds);
        return part == 0 ? above / divisor : seeds / divisor;
    }

    public int image() {
        imaged.become(now);
        hasImage = true;
        return now.eaterCount;
    }

    public int back() {
        if (!hasImage) {
            return STATE;
        }
        now.become(imaged);
        return now.eaterCount;
    }

    // ---- the host

    public int sheet(int s, int sort, int n) {
        Sheet row = sheetAt(s);
        if (row == null || !within(sort, Sheet.MISSING, Sheet.INTS)) {
            return BAD;
        }
        if (sort == Sheet.MISSING) {
            row.becomeRow(Sheet.MISSING, 0);
            return 1;
        }
        if (n > SHEET_NUMBERS) {
            return BAD;
        }
        if (n < 0) {
            return SIZE_BELOW;
        }
        row.becomeRow(sort, n);
        return 1;
    }

    public int cell(int s, int i, int v) {
        Sheet row = sheetAt(s);
        if (row == null) {
            return BAD;
        }
        if (row.sort == Sheet.MISSING) {
            return NOTHING_THERE;
        }
        if (!within(i, 0, row.size - 1)) {
            return OUTSIDE;
        }
        row.write(i, v);
        return 1;
    }

    public int copy(int s, int i, int other, int j, int n) {
        Sheet from = sheetAt(s);
        Sheet to = sheetAt(other);
        if (from == null || to == null) {
            return BAD;
        }
        if (from.sort == Sheet.MISSING || to.sort == Sheet.MISSING) {
            return NOTHING_THERE;
        }
        if (from.sort != to.sort) {
            return OF_ANOTHER;
        }
        if (n < 0 || !within(i, 0, from.size - n) || !within(j, 0, to.size - n)) {
            return OUTSIDE;
        }
        System.arraycopy(from.numbers, i, to.numbers, j, n);
        return n;
    }

    public int eatersBy(int s, int sort, int at, int n) {
        Sheet row = sheetAt(s);
        if (row == null || !within(sort, Sheet.BYTES, Sheet.INTS) || !within(n, 0, EATERS)) {
            return BAD;
        }
        if (row.sort == Sheet.MISSING) {
            return NOTHING_THERE;
        }
        if (row.sort != sort) {
            return OF_ANOTHER;
        }
        int came = 0;
        for (int k = 0; k < n; k++) {
            if (!within(at, 0, row.size - 2 * k - 2)) {
                return OUTSIDE;
            }
            int first = at + 2 * k;
            if (comeEater(row.numbers[first], row.numbers[first + 1]) >= 0) {
                came++;
            }
        }
        return came;
    }

    public int taken(int i, int kind) {
        if (!within(kind, 0, KINDS)) {
            return BAD;
        }
        if (!within(i, 0, EATERS + GOODS - 1)) {
            return OUTSIDE;
        }
        Eater one = now.eaterAt(i);
        Good good = now.goodAt(i - EATERS);
        if (one == null && good == null) {
            return NOTHING_THERE;
        }
        if (one != null) {
            return kind < KINDS && one.isOf(kind) ? i : OF_ANOTHER;
        }
        return kind == KINDS ? good.left : OF_ANOTHER;
    }

    // ---- helpers

    private static boolean within(int v, int least, int most) {
        return v >= least && v <= most;
    }

    private static boolean isByte(int v) {
        return within(v, 0, 255);
    }

    private static boolean isPlace(int at) {
        return within(at, 0, PLACES - 1);
    }

    private static boolean isMarkOf(Good of, int bits) {
        return within(bits, 1, ALL_CELLS) && (bits & ~of.left) == 0;
    }

    /** The largest number by which both can be divided; b is 1 or more. */
    private static int commonDivisor(int a, int b) {
        for (int d = b; d > 1; d--) {
            if (a % d == 0 && b % d == 0) {
                return d;
            }
        }
        return 1;
    }

    private Text textAt(int t) {
        return within(t, 0, textCount - 1) ? texts[t] : null;
    }

    private Sheet sheetAt(int s) {
        return within(s, 0, SHEETS - 1) ? sheets[s] : null;
    }

    private int comeEater(int kindMore, int jaw) {
        if (!within(kindMore, 0, MORES * KINDS - 1) || !within(jaw, 1, JAWS)) {
            return BAD;
        }
        return now.addEater(kindMore / MORES, kindMore % MORES, jaw);
    }

    /** Why a sheet tells no day; 0 if it tells one. */
    private int refusalOfDay(int s) {
        Sheet row = sheetAt(s);
        if (row == null) {
            return BAD;
        }
        if (row.sort == Sheet.MISSING) {
            return NOTHING_THERE;
        }
        if (row.size % 3 != 0) {
            return BAD;
        }
        for (int k = 0; k + 2 < row.size; k += 3) {
            if (now.eaterAt(row.numbers[k]) == null || now.goodAt(row.numbers[k + 1]) == null
                    || !isPlace(row.numbers[k + 2])) {
                return BAD;
            }
        }
        return 0;
    }

    /** What is to be bitten. */
    private static final class Good {
        static final int SOFT = CELLS, LEFT = CELLS + 1, PARTS = CELLS + 2;

        final int[] worths = new int[CELLS];
        int soft;
        int left;

        static int mostOf(int what) {
            if (what == SOFT) {
                return MOST_SOFT;
            }
            return what == LEFT ? ALL_CELLS : MOST_WORTH;
        }

        void come(int softness, int worth) {
            for (int c = 0; c < CELLS; c++) {
                worths[c] = worth;
            }
            soft = softness;
            left = ALL_CELLS;
        }

        void become(Good other) {
            System.arraycopy(other.worths, 0, worths, 0, CELLS);
            soft = other.soft;
            left = other.left;
        }

        int readPart(int what) {
            if (what == SOFT) {
                return soft;
            }
            if (what == LEFT) {
                return left;
            }
            return within(what, 0, CELLS - 1) ? worths[what] : 0;
        }

        void writePart(int what, int v) {
            if (what == SOFT) {
                soft = v;
            } else if (what == LEFT) {
                left = v;
            } else if (within(what, 0, CELLS - 1)) {
                worths[what] = v;
            }
        }

        int worthOfCells(int bits) {
            int sum = 0;
            for (int c = 0; c < CELLS; c++) {
                if ((bits >> c & 1) != 0) {
                    sum += worths[c];
                }
            }
            return sum;
        }
    }

    /** One who bites; the kind says how the jaw takes, and what becomes of what the text says. */
    private static final class Eater {
        static final int PLAIN = 0, WIDE = 1, TOOTHLESS = 2, NIBBLER = 3, GUMS = 4, HIRED = 5;

        int kind;
        int more;
        int jaw;
        int purse;
        int had;

        void come(int ofKind, int withMore, int byJaw) {
            kind = ofKind;
            more = withMore;
            jaw = byJaw;
            purse = 100;
            had = 0;
        }

        void become(Eater other) {
            kind = other.kind;
            more = other.more;
            jaw = other.jaw;
            purse = other.purse;
            had = other.had;
        }

        boolean isOf(int sought) {
            return sought == PLAIN || sought == kind
                    || sought == WIDE && kind == NIBBLER || sought == TOOTHLESS && kind == GUMS;
        }

        /** The cells that a bite at a place takes. */
        int markOf(Good from, int at) {
            int shape = shapeIn(from);
            int up = at - PLACE_OF_BIT_0;
            return (up >= 0 ? shape << up : shape >> -up) & from.left;
        }

        boolean canLeave(Good from, int mark) {
            for (int at = 0; at < PLACES; at++) {
                if (markOf(from, at) == mark) {
                    return true;
                }
            }
            return false;
        }

        int shapeIn(Good of) {
            int wide = jaw | jaw << 1;
            switch (kind) {
                case WIDE: return wide;
                case NIBBLER: return wide & -wide;
                case TOOTHLESS:
                case GUMS: return of.soft < 5 ? 0 : jaw;
                case HIRED: return (2 << more / 2) - 1;
                default: return jaw;
            }
        }

        int paysFor(Good of, int said) {
            int toothless = of.soft > 6 ? 0 : said;
            switch (kind) {
                case TOOTHLESS: return toothless;
                case GUMS: return toothless + more / 3;
                case HIRED: return said + 3;
                default: return said;
            }
        }

        int likesCell(int said) {
            switch (kind) {
                case NIBBLER: return said + more;
                case GUMS: return 2 * said;
                default: return said;
            }
        }

        void swallow(Good from, int bits, int worth, int cost) {
            had = Math.min(had + worth, MOST_HAD);
            purse -= cost;
            from.left &= ~bits;
        }

        /** In thought, all may be again as it was ahead of a bite. */
        void giveBack(Good to, int left, int purseWas, int hadWas) {
            to.left = left;
            purse = purseWas;
            had = hadWas;
        }
    }

    /** A text that was read: its three parts as steps for a stack, one behind the other. */
    private static final class Text {
        static final int PAYS = 0, LIKES = 1, WAITS = 2;
        static final int MOST_PRICE = 999, MOST_LIKED = 99;
        // At most 5 operands wait in each of 5 brackets, and 6 within the innermost.
        static final int STACK = 32;

        final int number;
        private final int[] steps;
        private final int likesFrom;
        private final int waitsFrom;
        private final int[] stack = new int[STACK];

        Text(int number, int[] steps, int likesFrom, int waitsFrom) {
            this.number = number;
            this.steps = steps;
            this.likesFrom = likesFrom;
            this.waitsFrom = waitsFrom;
        }

        int says(int part, int[] names) {
            int from = part == PAYS ? 0 : part == LIKES ? likesFrom : waitsFrom;
            int to = part == PAYS ? likesFrom : part == LIKES ? waitsFrom : steps.length;
            int high = 0;
            for (int k = from; k < to && k < steps.length; k++) {
                int step = steps[k];
                int name = -step - Token.FIRST_NAME;
                if (step >= 0 && high < STACK) {
                    stack[high++] = step;
                } else if (within(name, 0, names.length - 1) && high < STACK) {
                    stack[high++] = names[name];
                } else if (step == -Token.NOT && high > 0) {
                    stack[high - 1] = stack[high - 1] == 0 ? 1 : 0;
                } else if (step == -Token.NEGATE && high > 0) {
                    stack[high - 1] = -stack[high - 1];
                } else if (high > 1) {
                    high--;
                    stack[high - 1] = join(step, stack[high - 1], stack[high]);
                }
            }
            int said = high > 0 ? stack[high - 1] : 0;
            return Math.max(0, Math.min(said, part == LIKES ? MOST_LIKED : MOST_PRICE));
        }

        private static int join(int step, int a, int b) {
            switch (-step) {
                case Token.OR: return a != 0 || b != 0 ? 1 : 0;
                case Token.AND: return a != 0 && b != 0 ? 1 : 0;
                case Token.LESS: return a < b ? 1 : 0;
                case Token.EQUAL: return a == b ? 1 : 0;
                case Token.PLUS: return a + b;
                case Token.MINUS: return a - b;
                default: return a * b;
            }
        }
    }

    /** What the words, numbers and signs of a text are called; a sign is its own byte. */
    private static final class Token {
        static final int END = 0, NUMBER = 1;
        static final int FIRST_NAME = 2, LAST_NAME = 7;
        static final int PAYS = 8, LIKES = 9, WAITS = 10, OR = 11, AND = 12, NOT = 13, NEGATE = 14;
        static final int OPEN = '(', CLOSE = ')', TIMES = '*', PLUS = '+', MINUS = '-';
        static final int STOP = ';', LESS = '<', EQUAL = '=';
        static final int NONE_SUCH = -1;

        // How tightly a token between two others binds.
        static final int RANK_OR = 0, RANK_AND = 1, RANK_COMPARED = 2, RANK_SUM = 3, RANK_TERM = 4;

        static boolean isSign(int b) {
            return b == OPEN || b == CLOSE || b == STOP || rankOf(b) >= RANK_COMPARED;
        }

        static int rankOf(int token) {
            switch (token) {
                case OR: return RANK_OR;
                case AND: return RANK_AND;
                case LESS:
                case EQUAL: return RANK_COMPARED;
                case PLUS:
                case MINUS: return RANK_SUM;
                case TIMES: return RANK_TERM;
                default: return NONE_SUCH;
            }
        }
    }

    /** The bytes fed so far, and the reading of them as a text. */
    private static final class Tape {
        static final int MOST_OPEN = 5, MOST_DIGITS = 4;

        private final int[] bytes = new int[TAPE_BYTES];
        private int size;
        private int next;
        private int token;
        private int tokenAt;
        private int number;
        private int fault;
        // Each token makes one step at most, so the steps have room where the bytes have.
        private final int[] steps = new int[TAPE_BYTES];
        private int stepCount;
        private int likesFrom;
        private int waitsFrom;

        int size() {
            return size;
        }

        int room() {
            return TAPE_BYTES - size;
        }

        void add(int b) {
            if (size < TAPE_BYTES) {
                bytes[size++] = b;
            }
        }

        void write(String all) {
            for (int k = 0; k < all.length(); k++) {
                add(all.charAt(k));
            }
        }

        void clear() {
            size = 0;
        }

        /** Reads the tape: the place of its fault, or NONE if it is a text, which made() gives then. */
        int findFault() {
            next = 0;
            fault = NONE;
            stepCount = 0;
            advance();
            expect(Token.PAYS);
            readRank(Token.RANK_OR, 0);
            expect(Token.STOP);
            likesFrom = stepCount;
            expect(Token.LIKES);
            readRank(Token.RANK_OR, 0);
            expect(Token.STOP);
            waitsFrom = stepCount;
            expect(Token.WAITS);
            readRank(Token.RANK_OR, 0);
            expect(Token.STOP);
            if (token != Token.END) {
                fail();
            }
            return fault;
        }

        Text made(int number) {
            int[] own = new int[stepCount];
            System.arraycopy(steps, 0, own, 0, stepCount);
            return new Text(number, own, likesFrom, waitsFrom);
        }

        /** Reads what binds at a rank or tighter, within so many open brackets, nots and minuses. */
        private void readRank(int rank, int open) {
            if (rank > Token.RANK_TERM) {
                readOne(open);
                return;
            }
            if (rank == Token.RANK_COMPARED && token == Token.NOT) {
                if (mayOpen(open)) {
                    advance();
                    readRank(Token.RANK_COMPARED, open + 1);
                    emit(-Token.NOT);
                }
                return;
            }
            readRank(rank + 1, open);
            // A comparison stands once; it is no chain.
            int most = rank == Token.RANK_COMPARED ? 1 : TAPE_BYTES;
            for (int done = 0; done < most && Token.rankOf(token) == rank; done++) {
                int joining = token;
                advance();
                readRank(rank + 1, open);
                emit(-joining);
            }
        }

        private void readOne(int open) {
            if (token == Token.NUMBER) {
                emit(number);
                advance();
            } else if (within(token, Token.FIRST_NAME, Token.LAST_NAME)) {
                emit(-token);
                advance();
            } else if (token == Token.MINUS) {
                if (mayOpen(open)) {
                    advance();
                    readOne(open + 1);
                    emit(-Token.NEGATE);
                }
            } else if (token == Token.OPEN) {
                if (mayOpen(open)) {
                    advance();
                    readRank(Token.RANK_OR, open + 1);
                    expect(Token.CLOSE);
                }
            } else {
                fail();
            }
        }

        private boolean mayOpen(int open) {
            if (open >= MOST_OPEN) {
                fail();
            }
            return open < MOST_OPEN;
        }

        private void expect(int wanted) {
            if (token == wanted) {
                advance();
            } else {
                fail();
            }
        }

        private void emit(int step) {
            if (stepCount < TAPE_BYTES) {
                steps[stepCount++] = step;
            }
        }

        /** The first fault stays; no token matches any more, so that the reading runs out. */
        private void fail() {
            if (fault < 0) {
                fault = tokenAt;
            }
            token = Token.NONE_SUCH;
        }

        private void advance() {
            while (next < size && (bytes[next] == ' ' || bytes[next] == 10)) {
                next++;
            }
            tokenAt = next;
            if (next >= size) {
                token = Token.END;
            } else if (isLetter(bytes[next])) {
                while (next < size && isLetter(bytes[next])) {
                    next++;
                }
                token = wordToken();
            } else if (isDigit(bytes[next])) {
                readNumber();
            } else {
                token = Token.isSign(bytes[next]) ? bytes[next] : Token.NONE_SUCH;
                next++;
            }
        }

        private void readNumber() {
            number = 0;
            while (next < size && isDigit(bytes[next])) {
                number = 10 * number + bytes[next] - '0';
                next++;
            }
            token = next - tokenAt > MOST_DIGITS ? Token.NONE_SUCH : Token.NUMBER;
        }

        private int wordToken() {
            if (isWord("cells")) {
                return Token.FIRST_NAME;
            } else if (isWord("worth")) {
                return Token.FIRST_NAME + 1;
            } else if (isWord("soft")) {
                return Token.FIRST_NAME + 2;
            } else if (isWord("more")) {
                return Token.FIRST_NAME + 3;
            } else if (isWord("left")) {
                return Token.FIRST_NAME + 4;
            } else if (isWord("day")) {
                return Token.LAST_NAME;
            } else if (isWord("pays")) {
                return Token.PAYS;
            } else if (isWord("likes")) {
                return Token.LIKES;
            } else if (isWord("waits")) {
                return Token.WAITS;
            } else if (isWord("or")) {
                return Token.OR;
            } else if (isWord("and")) {
                return Token.AND;
            }
            return isWord("not") ? Token.NOT : Token.NONE_SUCH;
        }

        private boolean isWord(String word) {
            if (next - tokenAt != word.length()) {
                return false;
            }
            for (int k = 0; k < word.length(); k++) {
                if (bytes[tokenAt + k] != word.charAt(k)) {
                    return false;
                }
            }
            return true;
        }

        private static boolean isLetter(int b) {
            return b >= 'a' && b <= 'z';
        }

        private static boolean isDigit(int b) {
            return b >= '0' && b <= '9';
        }
    }

    /** All that an image keeps: the eaters, the goods, the day, the law. */
    private static final class Scene {
        private static final int NAMES = 6;

        final Eater[] eaters = new Eater[EATERS];
        final Good[] goods = new Good[GOODS];
        int eaterCount;
        int goodCount;
        int day;
        Text law;

        // What findBest() found: the bite as best() tells it.
        int bestBite;
        int bestGain;
        // The gain of the bite that tryBite() did last.
        int gain;
        private final int[] names = new int[NAMES];

        Scene(Text law) {
            this.law = law;
            for (int e = 0; e < EATERS; e++) {
                eaters[e] = new Eater();
            }
            for (int g = 0; g < GOODS; g++) {
                goods[g] = new Good();
            }
        }

        void become(Scene other) {
            for (int e = 0; e < other.eaterCount; e++) {
                eaters[e].become(other.eaters[e]);
            }
            for (int g = 0; g < other.goodCount; g++) {
                goods[g].become(other.goods[g]);
            }
            eaterCount = other.eaterCount;
            goodCount = other.goodCount;
            day = other.day;
            law = other.law;
        }

        Eater eaterAt(int e) {
            return within(e, 0, eaterCount - 1) ? eaters[e] : null;
        }

        Good goodAt(int g) {
            return within(g, 0, goodCount - 1) ? goods[g] : null;
        }

        int addEater(int kind, int more, int jaw) {
            if (eaterCount >= EATERS) {
                return FULL;
            }
            eaters[eaterCount].come(kind, more, jaw);
            return eaterCount++;
        }

        int addGood(int soft, int worth) {
            if (goodCount >= GOODS) {
                return FULL;
            }
            goods[goodCount].come(soft, worth);
            return goodCount++;
        }

        int said(int part, Eater one, Good of, int cells, int worth) {
            names[0] = cells;
            names[1] = worth;
            names[2] = of.soft;
            names[3] = one.more;
            names[4] = Integer.bitCount(of.left);
            names[5] = day;
            return law.says(part, names);
        }

        int costOf(Eater one, Good from, int bits) {
            int cells = Integer.bitCount(bits);
            return one.paysFor(from, said(Text.PAYS, one, from, cells, from.worthOfCells(bits)));
        }

        int worthOf(Eater one, Good from, int bits) {
            int cells = Integer.bitCount(bits);
            int sum = 0;
            for (int c = 0; c < CELLS; c++) {
                if ((bits >> c & 1) != 0) {
                    sum += one.likesCell(said(Text.LIKES, one, from, cells, from.worths[c]));
                }
            }
            return sum;
        }

        int leastGain(Eater one, Good from, int bits) {
            return said(Text.WAITS, one, from, Integer.bitCount(bits), from.worthOfCells(bits));
        }

        /** Does a bite, if it can be. */
        boolean tryBite(Eater one, Good from, int at) {
            int bits = one.markOf(from, at);
            if (bits == 0) {
                return false;
            }
            int cost = costOf(one, from, bits);
            if (cost > one.purse) {
                return false;
            }
            int worth = worthOf(one, from, bits);
            gain = worth - cost;
            one.swallow(from, bits, worth, cost);
            return true;
        }

        /** How bite k of all, by goods, then places, is told. */
        static int tellBite(int k) {
            return 100 * (k / PLACES) + k % PLACES;
        }

        void findBest(Eater one) {
            bestBite = NONE;
            bestGain = 0;
            for (int k = 0; k < goodCount * PLACES; k++) {
                Good from = goods[k / PLACES];
                int bits = one.markOf(from, k % PLACES);
                int cost = bits == 0 ? 0 : costOf(one, from, bits);
                if (bits == 0 || cost > one.purse) {
                    continue;
                }
                int its = worthOf(one, from, bits) - cost;
                if ((bestBite == NONE || its > bestGain) && its >= leastGain(one, from, bits)) {
                    bestBite = tellBite(k);
                    bestGain = its;
                }
            }
        }

        /** The good of the best bite, or null if none was found. */
        Good goodOfBest() {
            return bestBite == NONE ? null : goodAt(bestBite / 100);
        }

        int placeOfBest() {
            return bestBite % 100;
        }
    }

    /** What would come of bites, on a scene of its own. */
    private static final class Thought {
        private static final long LOT_FACTOR = 48271, LOT_MODULUS = 2147483647;
        // Below all that a duel comes to.
        private static final int CAN_NOT_BE = -1000000;

        final Scene scene;
        int order;
        int orderGains;
        int duelBite;

        Thought(Text law) {
            scene = new Scene(law);
        }

        void startFrom(Scene real) {
            scene.become(real);
            order = NONE;
            orderGains = 0;
        }

        /** Tries, behind so many turns, all orders of those who have had none; gone has the others' bits. */
        private void tryOrders(int turns, int gone, int digits, int gains) {
            if (turns >= scene.eaterCount) {
                if (order == NONE || gains > orderGains) {
                    order = digits;
                    orderGains = gains;
                }
                return;
            }
            for (int e = 0; e < scene.eaterCount; e++) {
                if ((gone >> e & 1) == 0) {
                    tryNext(e, turns, gone | 1 << e, 10 * digits + e + 1, gains);
                }
            }
        }

        private void tryNext(int e, int turns, int gone, int digits, int gains) {
            Eater one = scene.eaters[e];
            scene.findBest(one);
            Good from = scene.goodOfBest();
            if (from == null) {
                tryOrders(turns + 1, gone, digits, gains);
                return;
            }
            int purse = one.purse;
            int had = one.had;
            int left = from.left;
            scene.tryBite(one, from, scene.placeOfBest());
            tryOrders(turns + 1, gone, digits, gains + scene.gain);
            one.giveBack(from, left, purse, had);
        }

        /** What a duel comes to for the one whose turn it is; duelBite is the bite of that turn then. */
        private int tryDuel(Eater one, Eater other, int turns) {
            if (turns <= 0) {
                return 0;
            }
            int found = NONE;
            int most = CAN_NOT_BE;
            for (int k = 0; k < scene.goodCount * PLACES; k++) {
                int comesTo = tryTurn(one, other, turns, k);
                if (comesTo > most) {
                    found = Scene.tellBite(k);
                    most = comesTo;
                }
            }
            if (found == NONE) {
                most = -tryDuel(other, one, turns - 1);
            }
            // Set last: the turns behind this one have set it, too.
            duelBite = found;
            return most;
        }

        private int tryTurn(Eater one, Eater other, int turns, int k) {
            Good from = scene.goods[k / PLACES];
            int purse = one.purse;
            int had = one.had;
            int left = from.left;
            if (!scene.tryBite(one, from, k % PLACES)) {
                return CAN_NOT_BE;
            }
            int gain = scene.gain;
            int comesTo = gain - tryDuel(other, one, turns - 1);
            one.giveBack(from, left, purse, had);
            return comesTo;
        }

        /** Does the bites that a sheet tells up to the first that cannot be: that one, or NONE. */
        int followDay(Sheet row) {
            for (int k = 0; k + 2 < row.size; k += 3) {
                Eater one = scene.eaterAt(row.numbers[k]);
                Good from = scene.goodAt(row.numbers[k + 1]);
                if (one == null || from == null || !scene.tryBite(one, from, row.numbers[k + 2])) {
                    return k / 3;
                }
            }
            return NONE;
        }

        /** Lets all do their best bites by turns, and writes these on a sheet: how many there were. */
        int takeTurns(int turns, Sheet row) {
            row.becomeRow(Sheet.BYTES, 0);
            if (scene.eaterCount == 0) {
                return 0;
            }
            int done = 0;
            for (int k = 0; k < turns; k++) {
                int e = k % scene.eaterCount;
                scene.findBest(scene.eaters[e]);
                Good from = scene.goodOfBest();
                if (from != null) {
                    row.add(e);
                    row.add(scene.bestBite / 100);
                    row.add(scene.placeOfBest());
                    scene.tryBite(scene.eaters[e], from, scene.placeOfBest());
                    done++;
                }
            }
            return done;
        }

        void drawDay(int seed, int lots) {
            if (scene.eaterCount == 0 || scene.goodCount == 0) {
                return;
            }
            long lot = seed + 1;
            for (int k = 0; k < lots; k++) {
                lot = lot * LOT_FACTOR % LOT_MODULUS;
                Eater one = scene.eaters[(int) (lot % scene.eaterCount)];
                Good from = scene.goods[(int) (lot / 8 % scene.goodCount)];
                scene.tryBite(one, from, (int) (lot / 64 % PLACES));
            }
        }
    }

    /** Tries other teeth on one who keeps the own ones. */
    private static final class Fitting {
        private final Eater fitted = new Eater();
        int gain;

        /** The least number of hired teeth of most gain, if that is more than without: else NONE. */
        int findTeeth(Scene scene, Eater one) {
            fitted.become(one);
            scene.findBest(fitted);
            gain = scene.bestGain;
            int found = NONE;
            for (int teeth = 1; teeth <= MOST_TEETH; teeth++) {
                fitted.kind = Eater.HIRED;
                fitted.more = 2 * teeth - 2;
                scene.findBest(fitted);
                if (scene.bestGain > gain) {
                    gain = scene.bestGain;
                    found = teeth;
                }
            }
            return found;
        }

        int kindsLeaving(Eater one, Good from, int mark) {
            int bits = 0;
            fitted.become(one);
            for (int kind = 0; kind < KINDS; kind++) {
                fitted.kind = kind;
                if (fitted.canLeave(from, mark)) {
                    bits |= 1 << kind;
                }
            }
            return bits;
        }

        int moresLeaving(Eater one, Good from, int mark) {
            int bits = 0;
            fitted.become(one);
            for (int more = 0; more < MORES; more++) {
                fitted.more = more;
                if (fitted.canLeave(from, mark)) {
                    bits |= 1 << more;
                }
            }
            return bits;
        }

        int countJaws(Eater one, Good from, int mark) {
            int sum = 0;
            fitted.become(one);
            for (int jaw = 1; jaw <= JAWS; jaw++) {
                fitted.jaw = jaw;
                if (fitted.canLeave(from, mark)) {
                    sum++;
                }
            }
            return sum;
        }

        int leastJaw(Eater one, Good from, int mark) {
            fitted.become(one);
            for (int jaw = 1; jaw <= JAWS; jaw++) {
                fitted.jaw = jaw;
                if (fitted.canLeave(from, mark)) {
                    return jaw;
                }
            }
            return NONE;
        }
    }

    /** How few bites of a shape take all cells. */
    private static final class Cover {
        private static final int SHAPE_BITS = 7;

        // By the cells that are left; none of them stay at 0.
        private final int[] fewestOf = new int[ALL_CELLS + 1];

        int fewestBites(int shape, int left) {
            if (left == 0) {
                return 0;
            }
            if (shape == 0) {
                return NONE;
            }
            for (int cells = 1; cells <= left && cells <= ALL_CELLS; cells++) {
                // Whatever the order of the bites is, one of them takes the lowest cell.
                int lowest = Integer.bitCount((cells & -cells) - 1);
                int fewest = ALL_CELLS;
                for (int b = 0; b < SHAPE_BITS; b++) {
                    if ((shape >> b & 1) != 0) {
                        int taken = lowest >= b ? shape << (lowest - b) : shape >> (b - lowest);
                        fewest = Math.min(fewest, 1 + fewestOf[cells & ~taken]);
                    }
                }
                fewestOf[cells] = fewest;
            }
            return left <= ALL_CELLS ? fewestOf[left] : NONE;
        }
    }

    /** A row of numbers of the host's. */
    private static final class Sheet {
        static final int MISSING = -1, BYTES = 0, SHORTS = 1, INTS = 2;

        int sort = MISSING;
        int size;
        final int[] numbers = new int[SHEET_NUMBERS];

        void becomeRow(int ofSort, int n) {
            sort = ofSort;
            size = n;
            for (int i = 0; i < SHEET_NUMBERS; i++) {
                numbers[i] = 0;
            }
        }

        void write(int i, int v) {
            if (!within(i, 0, SHEET_NUMBERS - 1)) {
                return;
            }
            switch (sort) {
                case BYTES: numbers[i] = (byte) v; break;
                case SHORTS: numbers[i] = (short) v; break;
                default: numbers[i] = v;
            }
        }

        void add(int v) {
            if (size < SHEET_NUMBERS) {
                size++;
                write(size - 1, v);
            }
        }
    }
}
