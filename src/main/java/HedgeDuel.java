/** Duels by hedge: two hedges on one strip, each planted to put the other's owner in shadow at noon. */
public final class HedgeDuel {
    public static final int BAD = -1, NO = -2, FULL = -3, NONE = -4;

    private static final String FIRST_TEXT =
        "l10;h0,0,3,25;h1,4,5,30;s0,2;s1,3;s5,8;s6,9;s7,8;s11,2;w9;d6;d7;r2;";

    private static final int YEAR_LENGTH = 12;
    private static final int MOST_LETTERS = 200;
    private static final int MOST_NUMBERS = 4;
    private static final int MOST_UNDONE = 8;
    private static final int MOST_KEPT = 2;
    private static final int MOST_SEEN = 6;
    private static final int MOST_PLANNED = 5;
    private static final int LONGEST_SIGHT = 24;
    private static final int MOST_DIVISIONS = 100;

    private static final int KINDS = 5, BAY = 2, FROST_LOSS = 2;
    private static final int[] GROWTH = {3, 1, 2, 1, 2};
    private static final int[] BOUND = {24, 40, 30, 10, 36};

    private static final int DEEDS = 5, NOTHING = 0, CLIP = 1, DUNG = 2, WATER = 3, LEAN = 4;
    private static final int CLIPPED = 2, DUNG_PRICE = 3, WATER_PRICE = 1, PLANT_PRICE = 5, MOST_LEAN = 3;
    private static final int MORE_BY_DUNG = 2, MORE_BY_WATER = 1, LEAST_FOR_DUNG = 3, SCORCHED = 1;

    private static final int LOSS = 100, PLAY_SHIFT = 200, UNREACHED = 100000;

    private final Paper paper = new Paper();
    private final Strip strip = new Strip();
    private final Garden now = new Garden();
    private final Garden trial = new Garden();
    private final Shelf past = new Shelf(MOST_UNDONE);
    private final Shelf kept = new Shelf(MOST_KEPT);
    private final Sights seen = new Sights();
    private final Plan plan = new Plan(strip);

    public HedgeDuel() {
        for (int i = 0; i < FIRST_TEXT.length(); i++) {
            paper.add(FIRST_TEXT.charAt(i));
        }
        layPaper();
        paper.size = 0;
    }

    // ---- duels

    public int write(int letter) {
        if (!within(letter, 32, 126)) {
            return BAD;
        }
        if (paper.size >= MOST_LETTERS) {
            return FULL;
        }
        paper.add(letter);
        return paper.size;
    }

    public int wipe() {
        int was = paper.size;
        paper.size = 0;
        return was;
    }

    public int fault() {
        return paper.firstFault();
    }

    public int lay() {
        if (paper.size == 0 || paper.firstFault() != NONE) {
            return NO;
        }
        layPaper();
        past.size = 0;
        kept.size = 0;
        seen.size = 0;
        return strip.length;
    }

    public int hedge(int p, int what) {
        if (!isSide(p) || !within(what, 0, 7)) {
            return BAD;
        }
        Hedge own = now.of(p);
        int sun = strip.sunIn(now.months);
        switch (what) {
            case 0: return own.sort;
            case 1: return own.high;
            case 2: return own.lean;
            case 3: return own.coins;
            case 4: return own.shadowLength(sun);
            case 5: return now.isShaded(p, sun, strip.length) ? 1 : 0;
            case 6: return own.dark;
            default: return own.dark >= strip.need ? 1 : 0;
        }
    }

    public int month(int m, int what) {
        if (!within(m, 0, 99) || !within(what, 0, 1)) {
            return BAD;
        }
        if (what == 0) {
            return strip.sunIn(m);
        }
        return strip.isDry(m) ? 1 : 0;
    }

    // ---- months

    public int act(int a, int b) {
        if (!isDeed(a) || !isDeed(b)) {
            return BAD;
        }
        if (isOver()) {
            return NO;
        }
        past.push(now);
        now.turn(strip, a, b);
        return (now.first.dark > 0 ? 1 : 0) | (now.second.dark > 0 ? 2 : 0);
    }

    public int pass(int n) {
        if (!within(n, 1, 24)) {
            return BAD;
        }
        if (isOver()) {
            return NO;
        }
        past.push(now);
        now.idle(strip, n);
        return now.months;
    }

    public int plant(int p, int kind) {
        if (!isSide(p) || !isKind(kind)) {
            return BAD;
        }
        Hedge own = now.of(p);
        if (isOver() || own.coins < PLANT_PRICE) {
            return NO;
        }
        past.push(now);
        own.coins -= PLANT_PRICE;
        own.sort = kind;
        own.high = 1;
        own.lean = 0;
        return own.coins;
    }

    public int undo() {
        if (past.size == 0) {
            return NO;
        }
        past.pop(now);
        return past.size;
    }

    // ---- what comes

    public int behind(int n, int what) {
        if (!within(n, 0, 36) || !within(what, 0, 2)) {
            return BAD;
        }
        trial.copy(now);
        trial.idle(strip, n);
        return outcome(what);
    }

    public int soonest(int p, int k) {
        if (!isSide(p) || !within(k, 0, MOST_PLANNED)) {
            return BAD;
        }
        if (isOver()) {
            return NO;
        }
        int length = soonestLength(p);
        if (length == 0 || k > length) {
            return NONE;
        }
        return k == 0 ? length : cell(plan.row, k - 1);
    }

    public int hold(int p, int n, int k) {
        if (!isSide(p) || !within(n, 1, MOST_PLANNED) || !within(k, 1, n)) {
            return BAD;
        }
        if (isOver()) {
            return NO;
        }
        plan.begin(now, p, n, false);
        return finds(plan, 0) ? cell(plan.row, k - 1) : NONE;
    }

    public int play(int n, int what) {
        if (!within(n, 1, 3) || !within(what, 0, 1)) {
            return BAD;
        }
        if (isOver()) {
            return NO;
        }
        plan.begin(now, 0, n, false);
        int lead = bestLead(plan, 0);
        return what == 0 ? lead + PLAY_SHIFT : cell(plan.row, 0);
    }

    public int kind(int p, int n, int what) {
        if (!isSide(p) || !within(n, 1, 24) || !within(what, 0, 1)) {
            return BAD;
        }
        if (isOver()) {
            return NO;
        }
        int best = 0;
        int highest = -1;
        for (int sort = 0; sort < KINDS; sort++) {
            trial.copy(now);
            trial.of(p).sort = sort;
            trial.idle(strip, n);
            int high = trial.of(p).high;
            if (high > highest) {
                highest = high;
                best = sort;
            }
        }
        return what == 0 ? best : highest;
    }

    // ---- what was seen

    public int see(int p, int t, int h) {
        if (!isSide(p) || !within(t, 1, LONGEST_SIGHT) || !within(h, 0, 60)) {
            return BAD;
        }
        if (seen.size >= MOST_SEEN) {
            return FULL;
        }
        seen.add(p, t, h);
        return seen.size;
    }

    public int forget() {
        int were = seen.size;
        seen.size = 0;
        return were;
    }

    public int did(int p) {
        if (!isSide(p)) {
            return BAD;
        }
        if (isOver()) {
            return NO;
        }
        int bits = 0;
        for (int deed = 0; deed < DEEDS; deed++) {
            trial.copy(now);
            if (comesAsSeen(p, deed)) {
                bits |= 1 << deed;
            }
        }
        return bits;
    }

    public int was(int p) {
        if (!isSide(p)) {
            return BAD;
        }
        if (isOver()) {
            return NO;
        }
        int bits = 0;
        for (int sort = 0; sort < KINDS; sort++) {
            trial.copy(now);
            trial.of(p).sort = sort;
            if (comesAsSeen(p, NOTHING)) {
                bits |= 1 << sort;
            }
        }
        return bits;
    }

    // ---- droughts, years

    public int drought(int p, int n, int x, int part) {
        if (!isSide(p) || !within(n, 0, 6) || !within(x, 0, 10) || !within(part, 0, 1)) {
            return BAD;
        }
        int above = 0;
        int below = 1;
        for (int i = 0; i < n; i++) {
            below *= 10;
        }
        for (int pattern = 0; pattern < 1 << n; pattern++) {
            int weight = playDrought(pattern, n, x);
            if (trial.loser(strip) == p) {
                above += weight;
            }
        }
        int common = commonDivisor(above, below);
        if (common == 0) {
            return NONE;
        }
        return (part == 0 ? above : below) / common;
    }

    public int year(int z, int n, int what) {
        if (!within(z, 0, 9999) || !within(n, 1, 40) || !within(what, 0, 2)) {
            return BAD;
        }
        trial.copy(now);
        for (int k = 0; k < n; k++) {
            int draw = drawOf(z, k);
            trial.turn(strip, draw % DEEDS, draw / 8 % DEEDS);
        }
        return outcome(what);
    }

    public int keep() {
        if (kept.size >= MOST_KEPT) {
            return FULL;
        }
        kept.push(now);
        return kept.size;
    }

    public int back() {
        if (kept.size == 0) {
            return NO;
        }
        kept.pop(now);
        past.size = 0;
        return kept.size;
    }

    public int count(int what) {
        switch (what) {
            case 0: return strip.length;
            case 1: return now.months;
            case 2: return now.well;
            case 3: return now.loser(strip);
            case 4: return strip.need;
            case 5: return seen.size;
            case 6: return past.size;
            case 7: return kept.size;
            case 8: return paper.size;
            default: return BAD;
        }
    }

    // ---- numbers that are told

    private static boolean within(int n, int least, int most) {
        return n >= least && n <= most;
    }

    private static boolean isSide(int p) {
        return within(p, 0, 1);
    }

    private static boolean isKind(int sort) {
        return within(sort, 0, KINDS - 1);
    }

    private static boolean isDeed(int deed) {
        return within(deed, 0, DEEDS - 1);
    }

    private static int cell(int[] row, int i) {
        return i >= 0 && i < row.length ? row[i] : 0;
    }

    private static void setCell(int[] row, int i, int value) {
        if (i >= 0 && i < row.length) {
            row[i] = value;
        }
    }

    // ---- how things stand

    private boolean isOver() {
        return now.loser(strip) != NONE;
    }

    /** What behind() and year() tell of the garden that was tried. */
    private int outcome(int what) {
        switch (what) {
            case 0: return trial.first.high;
            case 1: return trial.second.high;
            default: return trial.loser(strip);
        }
    }

    /** Lays the paper, which has no fault. */
    private void layPaper() {
        strip.clear();
        now.clear();
        int i = 0;
        while (i < paper.size) {
            int next = paper.readItem(i);
            if (next <= i) {
                return;
            }
            layItem(paper.letterAt(i), paper.numbers);
            i = next;
        }
    }

    private void layItem(int letter, int[] numbers) {
        int n = cell(numbers, 0);
        switch (letter) {
            case 'l': strip.length = n; break;
            case 'h': now.of(n).begin(cell(numbers, 1), cell(numbers, 2), cell(numbers, 3)); break;
            case 's': setCell(strip.sun, n, cell(numbers, 1)); break;
            case 'w': now.well = n; break;
            case 'd': setCell(strip.dry, n, 1); break;
            case 'r': strip.need = n; break;
            default: break;
        }
    }

    // ---- looking ahead

    /** The fewest months of soonest(), the plan's row filled; 0 where there are none. */
    private int soonestLength(int p) {
        for (int n = 1; n <= MOST_PLANNED; n++) {
            plan.begin(now, p, n, true);
            if (finds(plan, 0)) {
                return n;
            }
        }
        return 0;
    }

    /** Fills the plan's row from this depth on with the first deeds that reach what it is for. */
    private static boolean finds(Plan plan, int depth) {
        if (depth >= plan.months || depth >= MOST_PLANNED) {
            return plan.isReached(depth);
        }
        int answer = plan.attack ? NOTHING : DUNG;
        for (int deed = 0; deed < DEEDS; deed++) {
            setCell(plan.row, depth, deed);
            plan.attempt(depth, plan.side == 0 ? deed : answer, plan.side == 0 ? answer : deed);
            if (finds(plan, depth + 1)) {
                return true;
            }
        }
        return false;
    }

    /** By how much P 0 is ahead at the end, if both go on as well as they can from this depth. */
    private static int bestLead(Plan plan, int depth) {
        if (depth >= plan.months || depth >= MOST_PLANNED || plan.isOver(depth)) {
            return plan.leadAt(depth);
        }
        int best = -UNREACHED;
        for (int a = 0; a < DEEDS; a++) {
            int worst = UNREACHED;
            // an answer that brings this deed down to the best one rules it out, so no other is looked at
            for (int b = 0; b < DEEDS && worst > best; b++) {
                plan.attempt(depth, a, b);
                worst = Math.min(worst, bestLead(plan, depth + 1));
            }
            if (worst > best) {
                best = worst;
                setCell(plan.row, depth, a);
            }
        }
        return best;
    }

    /** Whether all that is seen comes so in the garden tried, if P does this deed first. */
    private boolean comesAsSeen(int p, int deed) {
        for (int t = 1; t <= LONGEST_SIGHT; t++) {
            int done = t == 1 ? deed : NOTHING;
            trial.turn(strip, p == 0 ? done : NOTHING, p == 1 ? done : NOTHING);
            if (!seen.agree(t, trial)) {
                return false;
            }
        }
        return true;
    }

    /** Tries n months, dry where the pattern has a bit; how many of 10 to the n-th come so. */
    private int playDrought(int pattern, int n, int x) {
        trial.copy(now);
        int weight = 1;
        for (int i = 0; i < n; i++) {
            boolean dry = (pattern >> i & 1) == 1;
            weight *= dry ? x : 10 - x;
            trial.turnBy(strip, NOTHING, NOTHING, dry);
        }
        return weight;
    }

    private static int commonDivisor(int a, int b) {
        for (int i = 0; i < MOST_DIVISIONS && b > 0; i++) {
            int rest = a % b;
            a = b;
            b = rest;
        }
        return a;
    }

    private static int drawOf(int z, int k) {
        long x = 7919L * z + 6151L * k + 1;
        return (int) (x * x % 65521 / 2);
    }

    /** THE TEXT, and the numbers of the item that was read last. */
    private static final class Paper {
        final int[] letters = new int[MOST_LETTERS];
        final int[] numbers = new int[MOST_NUMBERS];
        int size;
        int amount;

        void add(int letter) {
            setCell(letters, size, letter);
            size++;
        }

        int letterAt(int i) {
            return i >= 0 && i < size ? cell(letters, i) : NONE;
        }

        int figureAt(int i) {
            int letter = letterAt(i);
            return within(letter, '0', '9') ? letter - '0' : NONE;
        }

        int firstFault() {
            int i = 0;
            while (i < size) {
                int next = readItem(i);
                if (next <= i) {
                    return i;
                }
                i = next;
            }
            return NONE;
        }

        /** Reads the item that starts there: the place behind it, NONE if it is not so. */
        int readItem(int from) {
            int i = from + 1;
            amount = 0;
            while (amount < MOST_NUMBERS) {
                int number = figureAt(i);
                if (number == NONE) {
                    return NONE;
                }
                i++;
                if (figureAt(i) != NONE) {
                    number = number * 10 + figureAt(i);
                    i++;
                }
                setCell(numbers, amount, number);
                amount++;
                int sign = letterAt(i);
                i++;
                if (sign == ';') {
                    return isSo(letterAt(from)) ? i : NONE;
                }
                if (sign != ',') {
                    return NONE;
                }
            }
            return NONE;
        }

        boolean isSo(int letter) {
            switch (letter) {
                case 'l': return amount == 1 && number(0, 1, 40);
                case 'h': return amount == 4 && number(0, 0, 1) && number(1, 0, 4) && number(2, 0, 40);
                case 's': return amount == 2 && number(0, 0, 11) && number(1, 1, 9);
                case 'w': return amount == 1;
                case 'd': return amount == 1 && number(0, 0, 11);
                case 'r': return amount == 1 && number(0, 1, 6);
                default: return false;
            }
        }

        boolean number(int i, int least, int most) {
            return within(cell(numbers, i), least, most);
        }
    }

    /** What a text tells that no month changes. */
    private static final class Strip {
        final int[] sun = new int[YEAR_LENGTH];
        final int[] dry = new int[YEAR_LENGTH];
        int length;
        int need;

        void clear() {
            length = 12;
            need = 2;
            for (int m = 0; m < YEAR_LENGTH; m++) {
                setCell(sun, m, 5);
                setCell(dry, m, 0);
            }
        }

        int sunIn(int months) {
            return cell(sun, Math.floorMod(months, YEAR_LENGTH));
        }

        boolean isDry(int months) {
            return cell(dry, Math.floorMod(months, YEAR_LENGTH)) == 1;
        }
    }

    /** One hedge, and what its owner has. */
    private static final class Hedge {
        static final int CELLS = 5;

        int sort;
        int high;
        int lean;
        int coins;
        /** Months on end in which its owner has been shaded. */
        int dark;
        /** By how much more it grows in the month that goes by; no copy needs it, as every deed sets it anew. */
        int more;
        /** Whether it has water in that month. */
        boolean wet;

        void begin(int newSort, int newHigh, int newCoins) {
            sort = newSort;
            high = newHigh;
            coins = newCoins;
            lean = 0;
            dark = 0;
        }

        void copy(Hedge other) {
            sort = other.sort;
            high = other.high;
            lean = other.lean;
            coins = other.coins;
            dark = other.dark;
        }

        void store(int[] cells, int from) {
            setCell(cells, from, sort);
            setCell(cells, from + 1, high);
            setCell(cells, from + 2, lean);
            setCell(cells, from + 3, coins);
            setCell(cells, from + 4, dark);
        }

        void restore(int[] cells, int from) {
            sort = cell(cells, from);
            high = cell(cells, from + 1);
            lean = cell(cells, from + 2);
            coins = cell(cells, from + 3);
            dark = cell(cells, from + 4);
        }

        int shadowLength(int sun) {
            return high * (10 - sun) / 3;
        }

        void takeDung() {
            if (high >= LEAST_FOR_DUNG) {
                more = MORE_BY_DUNG;
            } else {
                high = Math.max(0, high - SCORCHED);
            }
        }

        void grow(int months, boolean dry) {
            int bound = cell(BOUND, sort);
            if (high > bound || (dry && !wet)) {
                return;
            }
            int month = Math.floorMod(months, YEAR_LENGTH);
            boolean frozen = sort == BAY && (month <= 1 || month == 11);
            int growth = frozen ? -FROST_LOSS : cell(GROWTH, sort);
            int comes = high + growth + more;
            high = Math.max(0, Math.min(bound, comes));
        }
    }

    /** All that changes as the months go by. */
    private static final class Garden {
        static final int CELLS = 2 * Hedge.CELLS + 2;

        final Hedge first = new Hedge();
        final Hedge second = new Hedge();
        int well;
        int months;

        Hedge of(int p) {
            return p == 0 ? first : second;
        }

        void clear() {
            first.begin(0, 1, 20);
            second.begin(0, 1, 20);
            well = 10;
            months = 0;
        }

        void copy(Garden other) {
            first.copy(other.first);
            second.copy(other.second);
            well = other.well;
            months = other.months;
        }

        void store(int[] cells, int from) {
            first.store(cells, from);
            second.store(cells, from + Hedge.CELLS);
            setCell(cells, from + 2 * Hedge.CELLS, well);
            setCell(cells, from + 2 * Hedge.CELLS + 1, months);
        }

        void restore(int[] cells, int from) {
            first.restore(cells, from);
            second.restore(cells, from + Hedge.CELLS);
            well = cell(cells, from + 2 * Hedge.CELLS);
            months = cell(cells, from + 2 * Hedge.CELLS + 1);
        }

        int loser(Strip strip) {
            if (first.dark >= strip.need) {
                return 0;
            }
            return second.dark >= strip.need ? 1 : NONE;
        }

        boolean isShaded(int p, int sun, int length) {
            Hedge own = of(p);
            Hedge other = of(1 - p);
            return own.high < other.high && other.shadowLength(sun) >= length - other.lean;
        }

        void idle(Strip strip, int n) {
            for (int i = 0; i < n; i++) {
                turn(strip, NOTHING, NOTHING);
            }
        }

        void turn(Strip strip, int a, int b) {
            turnBy(strip, a, b, strip.isDry(months));
        }

        void turnBy(Strip strip, int a, int b, boolean dry) {
            if (loser(strip) != NONE) {
                return;
            }
            tend(first, a);
            tend(second, b);
            first.grow(months, dry);
            second.grow(months, dry);
            int sun = strip.sunIn(months);
            first.dark = isShaded(0, sun, strip.length) ? first.dark + 1 : 0;
            second.dark = isShaded(1, sun, strip.length) ? second.dark + 1 : 0;
            months++;
        }

        /** Does a deed, if it can be done; what it brings the hedge is for the growth of this month. */
        void tend(Hedge own, int deed) {
            own.more = 0;
            own.wet = false;
            if (deed == CLIP) {
                own.high = Math.max(0, own.high - CLIPPED);
            } else if (deed == LEAN) {
                own.lean = Math.min(MOST_LEAN, own.lean + 1);
            } else if (deed == DUNG && own.coins >= DUNG_PRICE) {
                own.coins -= DUNG_PRICE;
                own.takeDung();
            } else if (deed == WATER && own.coins >= WATER_PRICE && well > 0) {
                own.coins -= WATER_PRICE;
                well--;
                own.more = MORE_BY_WATER;
                own.wet = true;
            }
        }
    }

    /** Gardens as they stood, the latest one last; when it is full, the oldest one goes. */
    private static final class Shelf {
        final int slots;
        final int[] cells;
        int size;

        Shelf(int slots) {
            this.slots = Math.max(1, Math.min(slots, MOST_UNDONE));
            cells = new int[this.slots * Garden.CELLS];
        }

        void push(Garden garden) {
            if (size >= slots) {
                dropOldest();
            }
            garden.store(cells, size * Garden.CELLS);
            size++;
        }

        void pop(Garden garden) {
            if (size > 0) {
                size--;
                garden.restore(cells, size * Garden.CELLS);
            }
        }

        void dropOldest() {
            for (int i = 0; i + Garden.CELLS < cells.length; i++) {
                setCell(cells, i, cell(cells, i + Garden.CELLS));
            }
            size = slots - 1;
        }
    }

    /** What is seen: whose hedge, behind how many months, how high. */
    private static final class Sights {
        final int[] sides = new int[MOST_SEEN];
        final int[] times = new int[MOST_SEEN];
        final int[] heights = new int[MOST_SEEN];
        int size;

        void add(int p, int t, int h) {
            setCell(sides, size, p);
            setCell(times, size, t);
            setCell(heights, size, h);
            size++;
        }

        boolean agree(int t, Garden garden) {
            for (int i = 0; i < size; i++) {
                if (cell(times, i) == t && garden.of(cell(sides, i)).high != cell(heights, i)) {
                    return false;
                }
            }
            return true;
        }
    }

    /** A search ahead: the gardens at each depth of it, and the row of deeds found. */
    private static final class Plan {
        final Strip strip;
        final Garden work = new Garden();
        final int[] levels = new int[(MOST_PLANNED + 1) * Garden.CELLS];
        final int[] row = new int[MOST_PLANNED];
        int side;
        int months;
        boolean attack;

        Plan(Strip strip) {
            this.strip = strip;
        }

        /** Attack: the other one, who does nothing, is to lose; else the side holds out against dung. */
        void begin(Garden now, int p, int n, boolean attacking) {
            side = p;
            months = n;
            attack = attacking;
            now.store(levels, 0);
        }

        void open(int depth) {
            work.restore(levels, depth * Garden.CELLS);
        }

        /** Puts what becomes of the garden at this depth at the next one. */
        void attempt(int depth, int a, int b) {
            open(depth);
            work.turnBy(strip, a, b, strip.isDry(work.months));
            work.store(levels, (depth + 1) * Garden.CELLS);
        }

        boolean isReached(int depth) {
            open(depth);
            int loser = work.loser(strip);
            return attack ? loser == 1 - side : loser != side;
        }

        boolean isOver(int depth) {
            open(depth);
            return work.loser(strip) != NONE;
        }

        int leadAt(int depth) {
            open(depth);
            int lead = work.first.high - work.second.high;
            int loser = work.loser(strip);
            if (loser == 0) {
                return lead - LOSS;
            }
            return loser == 1 ? lead + LOSS : lead;
        }
    }
}
