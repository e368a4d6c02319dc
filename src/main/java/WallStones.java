/**
 * Stones over a wall: the machine and its throw, the book of ranges, the wall of cells, the handling of a shot and
 * the siege. What each call answers is told, promise by promise, in shared/DOC.md.
 */
public final class WallStones {
    public static final int BAD = -1, STATE = -2, FULL = -3, NONE = -9;

    private static final int BAD_WIND = -100, BAD_SINE = -2000, BAD_SPAN = -2000, NO_SPAN = -1000, NO_RANGE = -3;
    private static final int MOST_DISTANCE = 2000, MOST_FORCE = 99, MOST_REACH = 20000, MOST_NEAR = 200;
    private static final int AIM_SLACK = 5;
    /** More than any place, miss or number of hits there can be. */
    private static final int BEYOND = 1000000;
    private static final int REST = 0, WOUND = 1, SLUNG = 2, CLEAR = 3;

    private final Machine engine;
    private final Book book;
    private final Wall stones;
    private final Siege siege;
    private int handling;
    private int loosed;
    private long traced;

    public WallStones() {
        engine = new Machine();
        book = new Book();
        stones = new Wall();
        siege = new Siege();
        handling = REST;
    }

    // ---- the machine

    public int set(int what, int v) {
        if (!engine.takes(what, v)) {
            return BAD;
        }
        handling = REST;
        return engine.put(what, v);
    }

    public int wind(int v) {
        return within(v, -Machine.MOST_WIND, Machine.MOST_WIND) ? engine.putWind(v) : BAD_WIND;
    }

    public int sine(int x) {
        return within(x, -180, 180) ? sineOf(x) : BAD_SINE;
    }

    public int throwing(int what) {
        if (!within(what, 0, Machine.RANGE)) {
            return BAD;
        }
        engine.reckonOwn();
        return engine.reckoned(what);
    }

    public int flight(int kind, int r) {
        if (!within(kind, Machine.ROUND, Machine.SPLIT) || !within(r, 0, MOST_REACH)) {
            return BAD;
        }
        traced += Machine.bodiesAsked(kind);
        return engine.flightOf(kind, r);
    }

    public int tune(int from, int to, int distance, int what) {
        if (!engine.takes(Machine.SLING, from) || !engine.takes(Machine.SLING, to) || from > to
                || !within(distance, 0, MOST_DISTANCE) || !within(what, 0, 2)) {
            return BAD;
        }
        engine.tuneTo(from, to, distance);
        return engine.tuned(what);
    }

    // ---- ranging

    public int spread(int v) {
        return within(v, 0, Book.MOST_SPREAD) ? book.putSpread(v) : BAD;
    }

    public int shot(int hook, int fell) {
        if (!within(hook, 0, Machine.MOST_HOOK) || !within(fell, 0, MOST_DISTANCE)) {
            return BAD;
        }
        return book.tell(hook, fell) ? book.told() : FULL;
    }

    public int clear() {
        return book.forgetShots();
    }

    public int left() {
        book.study(engine);
        return book.pairsLeft();
    }

    public int span(int hook, int what) {
        if (!within(hook, 0, Machine.MOST_HOOK) || !within(what, 0, 1)) {
            return BAD_SPAN;
        }
        book.study(engine);
        if (!book.places(hook)) {
            return NO_SPAN;
        }
        return what == 0 ? book.leastPlace(hook) : book.greatestPlace(hook);
    }

    public int next() {
        book.study(engine);
        return book.widestHook();
    }

    public int surest(int distance, int what) {
        if (!within(distance, 0, MOST_DISTANCE) || !within(what, 0, 1)) {
            return BAD;
        }
        book.study(engine);
        int hook = book.surestHook(distance);
        return hook == NONE || what == 0 ? hook : book.farthestMiss(hook, distance);
    }

    // ---- the wall

    public int wall(int w, int h) {
        if (!within(w, 1, Wall.MOST_WIDE) || !within(h, 1, Wall.MOST_HIGH)) {
            return BAD;
        }
        stones.build(w, h);
        return w * h;
    }

    public int strength(int x, int y, int v) {
        if (!stones.has(x, y) || !within(v, 1, MOST_FORCE)) {
            return BAD;
        }
        return stones.stands(x, y) ? stones.putStrength(x, y, v) : STATE;
    }

    public int prop(int x, int y) {
        if (!stones.has(x, y)) {
            return BAD;
        }
        return stones.stands(x, y) ? stones.putProp(x, y) : STATE;
    }

    public int hit(int x, int y, int force) {
        if (!stones.has(x, y) || !within(force, 1, MOST_FORCE)) {
            return BAD;
        }
        return stones.stands(x, y) ? stones.strike(x, y, force) : STATE;
    }

    public int cell(int x, int y, int what) {
        if (!stones.has(x, y)) {
            return BAD;
        }
        switch (what) {
            case 0:
                return stones.stands(x, y) ? 1 : 0;
            case 1:
                return stones.strengthAt(x, y);
            case 2:
                return stones.isPropped(x, y) ? 1 : 0;
            default:
                return BAD;
        }
    }

    public int level(int v) {
        return within(v, 0, Wall.MOST_LEVEL) ? stones.putLevel(v) : BAD;
    }

    public int open() {
        return stones.firstOpen();
    }

    public int soonest(int force, int what) {
        if (!within(force, 1, MOST_FORCE) || !within(what, 0, 1)) {
            return BAD;
        }
        int column = stones.soonestColumn(force);
        return what == 0 ? column : stones.hitsToOpen(column, force);
    }

    public int scatter(int across, int up, int v) {
        if (!within(across, -1, 1) || !within(up, -1, 1) || !within(v, 0, Wall.MOST_WEIGHT)) {
            return BAD;
        }
        return stones.putWeight(across, up, v);
    }

    public int worth(int x, int y, int force) {
        if (!stones.has(x, y) || !within(force, 1, MOST_FORCE)) {
            return BAD;
        }
        return stones.worthOf(x, y, force);
    }

    public int aim(int force, int what) {
        if (!within(force, 1, MOST_FORCE) || !within(what, 0, 1)) {
            return BAD;
        }
        int best = stones.bestAim(force);
        return what == 0 ? best : stones.worthOf(stones.columnOf(best), stones.rowOf(best), force);
    }

    public long held(int x, int y, int force, int t) {
        if (!stones.has(x, y) || !within(force, 1, MOST_FORCE) || !within(t, 1, Wall.MOST_SHOTS)) {
            return BAD;
        }
        return stones.firstOpen() == NONE ? Wall.heldAfter(stones, x, y, force, t) : 0;
    }

    // ---- the handling

    public int wound() {
        if (handling != REST) {
            return STATE;
        }
        handling = WOUND;
        return handling;
    }

    public int sling() {
        if (handling != WOUND) {
            return STATE;
        }
        handling = SLUNG;
        return handling;
    }

    public int near(int men) {
        if (!within(men, 0, MOST_NEAR)) {
            return BAD;
        }
        if (handling == SLUNG || handling == CLEAR) {
            handling = men == 0 ? CLEAR : SLUNG;
        }
        return handling;
    }

    public int loose(int x, int y, int distance) {
        if (!stones.has(x, y) || !within(distance, 0, MOST_DISTANCE)) {
            return BAD;
        }
        if (handling != CLEAR || siege.stones() == 0) {
            return STATE;
        }
        handling = REST;
        loosed++;
        siege.spendStone();
        int range = engine.reckonOwn();
        if (range == NONE) {
            return NO_RANGE;
        }
        if (stones.stands(x, y) && Math.abs(range - distance) <= AIM_SLACK) {
            stones.strike(x, y, engine.forceAt(range));
        }
        return range;
    }

    // ---- the siege

    public int store(int what, int v) {
        return siege.takes(what, v) ? siege.put(what, v) : BAD;
    }

    public int wet(int n, int bits) {
        if (!within(n, 1, Siege.MOST_BITS) || !within(bits, 0, (1 << n) - 1)) {
            return BAD;
        }
        siege.putWet(n, bits);
        return n;
    }

    public int lasts(int r) {
        if (!within(r, 0, Siege.MOST_RATE)) {
            return BAD;
        }
        return siege.wholeDays(r, engine.turnsOfShot(), Siege.MOST_DAYS);
    }

    public int rate(int days) {
        return within(days, 1, Siege.MOST_DAYS) ? siege.bestRate(days, engine.turnsOfShot()) : BAD;
    }

    public int count(int what) {
        switch (what) {
            case 0:
                return handling;
            case 1:
                return stones.wide();
            case 2:
                return stones.high();
            case 3:
                return stones.standingCells();
            case 4:
                return book.told();
            case 5:
                return loosed;
            case 6:
                return siege.stones();
            case 7:
                return stones.openColumns();
            default:
                return BAD;
        }
    }

    public long trace() {
        return traced;
    }

    // ---- numbers

    private static boolean within(int v, int least, int most) {
        return v >= least && v <= most;
    }

    /** a by b, rounded down; 0 by a b that cannot divide. */
    private static long down(long a, long b) {
        return b > 0 ? Math.floorDiv(a, b) : 0;
    }

    /** a by b, rounded up; 0 by a b that cannot divide. */
    private static long up(long a, long b) {
        return b > 0 ? -Math.floorDiv(-a, b) : 0;
    }

    private static int sineOf(int x) {
        int side = Math.abs(x);
        long product = (long) side * (180 - side);
        int size = (int) down(4000 * product, 40500 - product);
        return x < 0 ? -size : size;
    }

    /** The beam with its box of earth, its sling, its hook and the stone at hand. */
    private static final class Machine {
        static final int ROUND = 0, ROUGH = 1, SPLIT = 2;
        static final int LETS_GO = 0, STALLS = 1, GIVEN = 2, HEIGHT = 3, SPEED = 4, REACH = 5, RANGE = 6;
        static final int SLING = 3, MOST_HOOK = 60, MOST_WIND = 20;

        private static final int ARM = 0, BEAM = 1, BOX = 2, HOOK = 4, START = 5, RUB = 6, WEIGHT = 7, KIND = 8;
        private static final int[] LEAST = {5, 20, 100, 10, 0, 10, 0, 1, 0};
        private static final int[] MOST = {40, 160, 9000, 160, 60, 60, 900, 300, 2};
        private static final int LAST_TURN = 160, NO_TURN = LAST_TURN + 1;

        private final int[] number;
        private final int[] given;
        private final int[] reckoning;
        private final int[] tuning;
        private int stallTurn;
        private int windNow;

        Machine() {
            number = new int[] {12, 60, 4000, 50, 30, 40, 100, 50, ROUND};
            given = new int[LAST_TURN + 1];
            reckoning = new int[RANGE + 1];
            tuning = new int[3];
            turnBeam();
        }

        boolean takes(int what, int v) {
            return within(what, 0, KIND) && within(v, LEAST[what], MOST[what]);
        }

        int put(int what, int v) {
            if (!takes(what, v)) {
                return BAD;
            }
            int was = number[what];
            number[what] = v;
            turnBeam();
            return was;
        }

        int putWind(int v) {
            int was = windNow;
            windNow = v;
            return was;
        }

        /** GIVEN of every turn and the first that stalls: neither sling nor hook alters them. */
        private void turnBeam() {
            long pull = (long) number[BOX] * number[ARM] - (long) number[WEIGHT] * number[BEAM];
            int startSine = sineOf(number[START]);
            stallTurn = NO_TURN;
            for (int t = LAST_TURN; t >= 1; t--) {
                int drop = sineOf(t - number[START]) + startSine;
                given[t] = (int) down(pull * drop, 1000) - number[RUB] * t;
                if (given[t] <= 0) {
                    stallTurn = t;
                }
            }
        }

        /** The first turn with OPEN of 100 and the hook: OPEN only grows, so one division finds it. */
        private int turnOfRelease(int sling, int hook) {
            long open = (100L + hook) * 2 * sling;
            long turn = up(open, number[BEAM] + 2L * sling);
            return turn >= 1 && turn <= LAST_TURN ? (int) turn : NO_TURN;
        }

        int slingNow() {
            return number[SLING];
        }

        int reckonOwn() {
            return reckon(number[SLING], number[HOOK]);
        }

        /** Writes the throw by a sling and a hook, NONE for what it does not come to; answers its RANGE. */
        int reckon(int sling, int hook) {
            for (int i = 0; i < reckoning.length; i++) {
                reckoning[i] = NONE;
            }
            int turn = turnOfRelease(sling, hook);
            if (stallTurn < NO_TURN && stallTurn <= turn) {
                reckoning[STALLS] = stallTurn;
            } else if (turn < NO_TURN) {
                reckonRelease(turn, sling, hook);
            }
            return reckoning[RANGE];
        }

        private void reckonRelease(int turn, int sling, int hook) {
            int height = 180 - (turn - number[START]) - hook;
            reckoning[LETS_GO] = turn;
            reckoning[GIVEN] = given[turn];
            reckoning[HEIGHT] = height;
            if (!within(height, 1, 89)) {
                return;
            }
            long speed = speedFor(given[turn], sling);
            long reach = down(speed * sineOf(2 * height), 8000);
            reckoning[SPEED] = (int) speed;
            reckoning[REACH] = (int) reach;
            int calm = flightOf(number[KIND], (int) reach);
            reckoning[RANGE] = Math.max(0, calm + windNow * calm / 100);
        }

        private long speedFor(int givenThen, int sling) {
            long length = number[BEAM] + sling;
            long square = length * length;
            long load = (long) number[BOX] * number[ARM] * number[ARM] + number[WEIGHT] * square;
            return down(2L * givenThen * square, load);
        }

        /** Each kind flies as the kind above it does, less what is its own. */
        int flightOf(int kind, int reach) {
            long flight = Math.max(0, reach - down((long) reach * reach, 20L * number[WEIGHT] + 2000));
            if (kind >= ROUGH) {
                flight -= up(flight, 8);
            }
            if (kind >= SPLIT) {
                flight = Math.max(0, flight - 2 * down(flight, 25) - 3);
            }
            return (int) flight;
        }

        /** What one flight adds to THE TRACE: each kind asks its own body and those above it. */
        static int bodiesAsked(int kind) {
            switch (kind) {
                case ROUND:
                    return 1;
                case ROUGH:
                    return 11;
                default:
                    return 111;
            }
        }

        int reckoned(int what) {
            return within(what, 0, RANGE) ? reckoning[what] : BAD;
        }

        void tuneTo(int from, int to, int distance) {
            keepTuning(NONE, NONE, NONE);
            int nearest = BEYOND;
            for (int sling = from; sling <= to; sling++) {
                for (int hook = 0; hook <= MOST_HOOK; hook++) {
                    int range = reckon(sling, hook);
                    int gap = Math.abs(range - distance);
                    if (range != NONE && gap < nearest) {
                        nearest = gap;
                        keepTuning(sling, hook, range);
                    }
                }
            }
        }

        private void keepTuning(int sling, int hook, int range) {
            tuning[0] = sling;
            tuning[1] = hook;
            tuning[2] = range;
        }

        int tuned(int what) {
            return within(what, 0, 2) ? tuning[what] : BAD;
        }

        int forceAt(int range) {
            return (int) Math.min(MOST_FORCE, down((long) number[WEIGHT] * range, 500) + 1);
        }

        int turnsOfShot() {
            return (int) up((long) number[BOX] * number[ARM], 1000);
        }
    }

    /**
     * The book of ranges by hook, and what may be wrong with it. By one scale a shot bears a run of drifts and
     * nothing else, so of each scale only the least and the greatest drift that are left need be kept.
     */
    private static final class Book {
        static final int MOST_SPREAD = 50;

        private static final int MOST_SHOTS = 16, LEAST_SCALE = 85, SCALES = 31, MOST_DRIFT = 12;

        private final int[] ranges;
        private final int[] shotHook;
        private final int[] shotFell;
        private final int[] leastDrift;
        private final int[] greatestDrift;
        private int shots;
        private int spreadNow;

        Book() {
            ranges = new int[Machine.MOST_HOOK + 1];
            shotHook = new int[MOST_SHOTS];
            shotFell = new int[MOST_SHOTS];
            leastDrift = new int[SCALES];
            greatestDrift = new int[SCALES];
            spreadNow = 5;
        }

        int putSpread(int v) {
            int was = spreadNow;
            spreadNow = v;
            return was;
        }

        boolean tell(int hook, int fell) {
            if (shots >= shotHook.length || shots >= shotFell.length) {
                return false;
            }
            shotHook[shots] = hook;
            shotFell[shots] = fell;
            shots++;
            return true;
        }

        int told() {
            return shots;
        }

        int forgetShots() {
            int were = shots;
            shots = 0;
            return were;
        }

        /** The book is of the machine as it is now, so it is written anew for each question. */
        void study(Machine machine) {
            int sling = machine.slingNow();
            for (int hook = 0; hook < ranges.length; hook++) {
                ranges[hook] = machine.reckon(sling, hook);
            }
            for (int s = 0; s < SCALES; s++) {
                leastDrift[s] = -MOST_DRIFT;
                greatestDrift[s] = MOST_DRIFT;
                for (int i = 0; i < shots; i++) {
                    bear(s, shotHook[i], shotFell[i]);
                }
            }
        }

        private void bear(int s, int hook, int fell) {
            if (ranges[hook] == NONE) {
                greatestDrift[s] = -MOST_DRIFT - 1;
                return;
            }
            int miss = fell - scaled(s, hook);
            leastDrift[s] = Math.max(leastDrift[s], miss - spreadNow);
            greatestDrift[s] = Math.min(greatestDrift[s], miss + spreadNow);
        }

        private int scaled(int s, int hook) {
            return (int) down((long) ranges[hook] * (LEAST_SCALE + s), 100);
        }

        private boolean isLeft(int s) {
            return leastDrift[s] <= greatestDrift[s];
        }

        int pairsLeft() {
            int pairs = 0;
            for (int s = 0; s < SCALES; s++) {
                pairs += isLeft(s) ? greatestDrift[s] - leastDrift[s] + 1 : 0;
            }
            return pairs;
        }

        /** Whether there is a place where a hook lands by some pair that is left. */
        boolean places(int hook) {
            return ranges[hook] != NONE && pairsLeft() > 0;
        }

        int leastPlace(int hook) {
            int least = BEYOND;
            for (int s = 0; s < SCALES; s++) {
                if (isLeft(s)) {
                    least = Math.min(least, scaled(s, hook) + leastDrift[s]);
                }
            }
            return least;
        }

        int greatestPlace(int hook) {
            int greatest = -BEYOND;
            for (int s = 0; s < SCALES; s++) {
                if (isLeft(s)) {
                    greatest = Math.max(greatest, scaled(s, hook) + greatestDrift[s]);
                }
            }
            return greatest;
        }

        int widestHook() {
            int best = NONE;
            int widest = -1;
            for (int hook = 0; hook < ranges.length; hook++) {
                int width = places(hook) ? greatestPlace(hook) - leastPlace(hook) : -1;
                if (width > widest) {
                    widest = width;
                    best = hook;
                }
            }
            return best;
        }

        /** No place between the least and the greatest lies farther off than one of these two. */
        int farthestMiss(int hook, int distance) {
            return Math.max(Math.abs(leastPlace(hook) - distance), Math.abs(greatestPlace(hook) - distance));
        }

        int surestHook(int distance) {
            int best = NONE;
            int least = BEYOND;
            for (int hook = 0; hook < ranges.length; hook++) {
                int miss = places(hook) ? farthestMiss(hook, distance) : BEYOND;
                if (miss < least) {
                    least = miss;
                    best = hook;
                }
            }
            return best;
        }
    }

    /** The wall of cells. A column's rows stand in the bits of one number, row 0 in the lowest. */
    private static final class Wall {
        static final int MOST_WIDE = 8, MOST_HIGH = 6, MOST_LEVEL = 2, MOST_WEIGHT = 9, MOST_SHOTS = 4;

        private static final int NEW_STRENGTH = 10, MIDDLE = 4;

        private final int[] strengths;
        private final int[] standing;
        private final int[] propped;
        private final int[] weights;
        private int columns;
        private int rows;
        private int levelNow;

        Wall() {
            strengths = new int[MOST_WIDE * MOST_HIGH];
            standing = new int[MOST_WIDE];
            propped = new int[MOST_WIDE];
            weights = new int[9];
            weights[MIDDLE] = 1;
            build(5, 3);
        }

        void build(int w, int h) {
            columns = w;
            rows = h;
            for (int i = 0; i < strengths.length; i++) {
                strengths[i] = NEW_STRENGTH;
            }
            for (int x = 0; x < MOST_WIDE; x++) {
                standing[x] = x < w ? (1 << h) - 1 : 0;
                propped[x] = 0;
            }
        }

        int wide() {
            return columns;
        }

        int high() {
            return rows;
        }

        boolean has(int x, int y) {
            return x >= 0 && x < columns && y >= 0 && y < rows;
        }

        private static int place(int x, int y) {
            return x * MOST_HIGH + y;
        }

        private static boolean holds(int bits, int y) {
            return (bits >> y & 1) != 0;
        }

        boolean stands(int x, int y) {
            return has(x, y) && holds(standing[x], y);
        }

        boolean isPropped(int x, int y) {
            return has(x, y) && holds(propped[x], y);
        }

        int strengthAt(int x, int y) {
            return has(x, y) ? strengths[place(x, y)] : BAD;
        }

        int putStrength(int x, int y, int v) {
            if (!has(x, y)) {
                return BAD;
            }
            int was = strengths[place(x, y)];
            strengths[place(x, y)] = v;
            return was;
        }

        int putProp(int x, int y) {
            if (!has(x, y)) {
                return BAD;
            }
            int was = holds(propped[x], y) ? 1 : 0;
            propped[x] |= 1 << y;
            return was;
        }

        /** A hit: how many cells fall by it, none where no cell stands. */
        int strike(int x, int y, int force) {
            if (!stands(x, y)) {
                return 0;
            }
            int before = Integer.bitCount(standing[x]);
            int place = place(x, y);
            strengths[place] -= force;
            propped[x] &= ~(1 << y);
            if (strengths[place] <= 0) {
                standing[x] &= ~(1 << y);
            }
            dropUnheld(x);
            return before - Integer.bitCount(standing[x]);
        }

        /** Once up the column is enough: a cell falls by nothing but what lies beneath it. */
        private void dropUnheld(int x) {
            for (int y = 1; y < rows; y++) {
                if (!holds(standing[x], y - 1) && !holds(propped[x], y)) {
                    standing[x] &= ~(1 << y);
                }
            }
        }

        int putLevel(int v) {
            int was = levelNow;
            levelNow = v;
            return was;
        }

        private boolean isOpen(int x) {
            return Integer.bitCount(standing[x]) <= levelNow;
        }

        int firstOpen() {
            for (int x = 0; x < columns; x++) {
                if (isOpen(x)) {
                    return x;
                }
            }
            return NONE;
        }

        int openColumns() {
            int open = 0;
            for (int x = 0; x < columns; x++) {
                open += isOpen(x) ? 1 : 0;
            }
            return open;
        }

        int standingCells() {
            int cells = 0;
            for (int x = 0; x < columns; x++) {
                cells += Integer.bitCount(standing[x]);
            }
            return cells;
        }

        int soonestColumn(int force) {
            int best = 0;
            for (int x = 1; x < columns; x++) {
                if (hitsToOpen(x, force) < hitsToOpen(best, force)) {
                    best = x;
                }
            }
            return best;
        }

        /** Looks at every set of cells that may be left standing: the fewest hits that leave just these. */
        int hitsToOpen(int x, int force) {
            if (!within(x, 0, columns - 1)) {
                return BAD;
            }
            int fewest = BEYOND;
            for (int keep = 0; keep < 1 << rows; keep++) {
                boolean allStand = (keep & ~standing[x]) == 0;
                if (allStand && Integer.bitCount(keep) <= levelNow) {
                    fewest = Math.min(fewest, hitsToKeep(x, keep, force));
                }
            }
            return fewest;
        }

        /** From below up: over a fallen cell one hit takes away a prop, over a standing one all strength must go. */
        private int hitsToKeep(int x, int keep, int force) {
            int hits = 0;
            for (int y = 0; y < rows; y++) {
                boolean beneathFalls = y > 0 && !holds(keep, y - 1);
                boolean fallsUnhit = beneathFalls && !holds(propped[x], y);
                if (holds(keep, y) && fallsUnhit) {
                    return BEYOND;
                }
                if (holds(standing[x], y) && !holds(keep, y) && !fallsUnhit) {
                    hits += beneathFalls ? 1 : (int) up(strengths[place(x, y)], force);
                }
            }
            return hits;
        }

        private static int weightPlace(int across, int up) {
            return MIDDLE + across + 3 * up;
        }

        int putWeight(int across, int up, int v) {
            int place = weightPlace(across, up);
            if (!within(place, 0, weights.length - 1)) {
                return BAD;
            }
            int was = weights[place];
            weights[place] = v;
            return was;
        }

        int worthOf(int x, int y, int force) {
            int worth = 0;
            for (int up = -1; up <= 1; up++) {
                for (int across = -1; across <= 1; across++) {
                    worth += weights[weightPlace(across, up)] * fallsBy(x + across, y + up, force);
                }
            }
            return worth;
        }

        /** How many cells would fall by a hit; the wall stays as it is. */
        private int fallsBy(int x, int y, int force) {
            if (!stands(x, y)) {
                return 0;
            }
            int standingWas = standing[x];
            int proppedWas = propped[x];
            int strengthWas = strengths[place(x, y)];
            int falls = strike(x, y, force);
            standing[x] = standingWas;
            propped[x] = proppedWas;
            strengths[place(x, y)] = strengthWas;
            return falls;
        }

        int columnOf(int number) {
            return columns > 0 ? number % columns : 0;
        }

        int rowOf(int number) {
            return columns > 0 ? number / columns : 0;
        }

        int bestAim(int force) {
            int best = 0;
            int greatest = -1;
            for (int number = 0; number < columns * rows; number++) {
                int worth = worthOf(columnOf(number), rowOf(number), force);
                if (worth > greatest) {
                    greatest = worth;
                    best = number;
                }
            }
            return best;
        }

        /** Weights of all rows of so many shots that open no column, of a wall in which none is open yet. */
        private static long heldAfter(Wall wall, int x, int y, int force, int shots) {
            if (shots <= 0 || shots > MOST_SHOTS) {
                return 1;
            }
            long together = 0;
            for (int i = 0; i < wall.weights.length; i++) {
                if (wall.weights[i] > 0) {
                    together += wall.weights[i] * heldBy(wall, i, x, y, force, shots);
                }
            }
            return together;
        }

        /** The same of rows whose first shot strikes where one of the nine weights has it. */
        private static long heldBy(Wall wall, int weight, int x, int y, int force, int shots) {
            int atX = x + weight % 3 - 1;
            int atY = y + weight / 3 - 1;
            if (!wall.stands(atX, atY)) {
                return heldAfter(wall, x, y, force, shots - 1);
            }
            int standingWas = wall.standing[atX];
            int proppedWas = wall.propped[atX];
            int strengthWas = wall.strengths[place(atX, atY)];
            wall.strike(atX, atY, force);
            long rest = wall.isOpen(atX) ? 0 : heldAfter(wall, x, y, force, shots - 1);
            wall.standing[atX] = standingWas;
            wall.propped[atX] = proppedWas;
            wall.strengths[place(atX, atY)] = strengthWas;
            return rest;
        }
    }

    /** The stores, the rope and the days. */
    private static final class Siege {
        static final int MOST_BITS = 20, MOST_RATE = 60, MOST_DAYS = 100;

        private static final int MEN = 0, STONES = 1, TIMBER = 2, FOOD = 3, LIFE = 4;
        private static final int[] LEAST = {1, 0, 0, 0, 1};
        private static final int[] MOST = {200, 9999, 9999, 9999, 200};
        private static final int TURNS_OF_A_MAN = 30, TIMBER_OF_A_ROPE = 3;

        private final int[] stored;
        private int wetRow;
        private int wetBits;

        Siege() {
            stored = new int[] {20, 100, 10, 1000, 40};
            wetRow = 1;
        }

        boolean takes(int what, int v) {
            return within(what, 0, LIFE) && within(v, LEAST[what], MOST[what]);
        }

        int put(int what, int v) {
            if (!takes(what, v)) {
                return BAD;
            }
            int was = stored[what];
            stored[what] = v;
            return was;
        }

        int stones() {
            return stored[STONES];
        }

        void spendStone() {
            stored[STONES] = Math.max(0, stored[STONES] - 1);
        }

        void putWet(int n, int bits) {
            wetRow = n;
            wetBits = bits;
        }

        /** The first day is day 0. */
        private boolean isWet(int day) {
            int bit = wetRow > 0 ? day % wetRow : 0;
            return (wetBits >> bit & 1) != 0;
        }

        /** How many days with r shots each are whole, so many at most; a dry shot costs so many turns. */
        int wholeDays(int r, int dryTurns, int most) {
            int food = stored[FOOD];
            int stones = stored[STONES];
            int timber = stored[TIMBER];
            int worn = 0;
            for (int day = 0; day < most; day++) {
                boolean wet = isWet(day);
                int turns = wet ? dryTurns + (int) up(dryTurns, 4) : dryTurns;
                food -= stored[MEN];
                if (food < 0 || r * turns > TURNS_OF_A_MAN * stored[MEN] || r > stones) {
                    return day;
                }
                stones -= r;
                for (int shot = 0; shot < r; shot++) {
                    worn += wet ? 2 : 1;
                    if (worn >= stored[LIFE]) {
                        worn = 0;
                        timber -= TIMBER_OF_A_ROPE;
                    }
                }
                if (timber < 0) {
                    return day;
                }
            }
            return most;
        }

        /** From the greatest rate down, so that the first that lasts is the answer. */
        int bestRate(int days, int dryTurns) {
            for (int r = MOST_RATE; r >= 0; r--) {
                if (wholeDays(r, dryTurns, days) == days) {
                    return r;
                }
            }
            return NONE;
        }
    }
}
