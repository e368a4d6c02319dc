import java.util.Arrays;

/**
 * The document read word by word, with no thought for speed or room: every turn stepped, every pair of scale and drift
 * tried, every hit made on a copy of the wall. Its answers are what PlainTest holds WallStones to.
 */
final class PlainStones {
    static final int NONE = -9;

    private static final int[] LEAST = {5, 20, 100, 10, 0, 10, 0, 1, 0};
    private static final int[] MOST = {40, 160, 9000, 160, 60, 60, 900, 300, 2};
    private static final int[] STORE_LEAST = {1, 0, 0, 0, 1};
    private static final int[] STORE_MOST = {200, 9999, 9999, 9999, 200};

    private int arm = 12, beam = 60, box = 4000, slingLength = 50, hook = 30, start = 40, rub = 100, weight = 50, kind = 0;
    private int wind = 0;
    private long trace = 0;

    private int spread = 5;
    private final int[][] shots = new int[16][2];
    private int told = 0;

    private Cells cells = new Cells(5, 3);
    private int level = 0;
    private final int[][] weights = {{0, 0, 0}, {0, 1, 0}, {0, 0, 0}};

    private String how = "REST";
    private int loosed = 0;

    private final int[] stores = {20, 100, 10, 1000, 40};
    private int wetLength = 1, wetBits = 0;

    private static final class Cells {
        final int w, h;
        final int[][] strength;
        final boolean[][] stands, propped;

        Cells(int w, int h) {
            this.w = w;
            this.h = h;
            strength = new int[w][h];
            stands = new boolean[w][h];
            propped = new boolean[w][h];
            for (int x = 0; x < w; x++) {
                Arrays.fill(strength[x], 10);
                Arrays.fill(stands[x], true);
            }
        }

        Cells copy() {
            Cells c = new Cells(w, h);
            for (int x = 0; x < w; x++) {
                for (int y = 0; y < h; y++) {
                    c.strength[x][y] = strength[x][y];
                    c.stands[x][y] = stands[x][y];
                    c.propped[x][y] = propped[x][y];
                }
            }
            return c;
        }

        boolean has(int x, int y) {
            return x >= 0 && x < w && y >= 0 && y < h;
        }

        int standing() {
            int n = 0;
            for (int x = 0; x < w; x++) {
                n += standing(x);
            }
            return n;
        }

        int standing(int x) {
            int n = 0;
            for (boolean s : stands[x]) {
                n += s ? 1 : 0;
            }
            return n;
        }

        int hit(int x, int y, int force) {
            if (!has(x, y) || !stands[x][y]) {
                return 0;
            }
            int before = standing();
            strength[x][y] -= force;
            propped[x][y] = false;
            if (strength[x][y] <= 0) {
                stands[x][y] = false;
            }
            boolean again = true;
            while (again) {
                again = false;
                for (int cx = 0; cx < w; cx++) {
                    for (int cy = h - 1; cy > 0; cy--) {
                        if (stands[cx][cy] && !propped[cx][cy] && !stands[cx][cy - 1]) {
                            stands[cx][cy] = false;
                            again = true;
                        }
                    }
                }
            }
            return before - standing();
        }
    }

    private static boolean in(int v, int a, int b) {
        return a <= v && v <= b;
    }

    private static long floor(long a, long b) {
        return Math.floorDiv(a, b);
    }

    private static long ceil(long a, long b) {
        return floor(a, b) + (Math.floorMod(a, b) == 0 ? 0 : 1);
    }

    // ---- the machine

    public int set(int what, int v) {
        if (!in(what, 0, 8) || !in(v, LEAST[what], MOST[what])) {
            return -1;
        }
        int was;
        switch (what) {
            case 0: was = arm; arm = v; break;
            case 1: was = beam; beam = v; break;
            case 2: was = box; box = v; break;
            case 3: was = slingLength; slingLength = v; break;
            case 4: was = hook; hook = v; break;
            case 5: was = start; start = v; break;
            case 6: was = rub; rub = v; break;
            case 7: was = weight; weight = v; break;
            default: was = kind; kind = v; break;
        }
        how = "REST";
        return was;
    }

    public int wind(int v) {
        if (!in(v, -20, 20)) {
            return -100;
        }
        int was = wind;
        wind = v;
        return was;
    }

    public int sine(int x) {
        if (!in(x, -180, 180)) {
            return -2000;
        }
        if (x < 0) {
            return -sine(-x);
        }
        return (int) floor(4000L * x * (180 - x), 40500 - x * (180 - x));
    }

    private int givenAt(int t) {
        int drop = sine(t - start) + sine(start);
        return (int) (floor(((long) box * arm - (long) weight * beam) * drop, 1000) - (long) rub * t);
    }

    /** The seven answers of throwing(), by a sling and a hook. */
    private int[] reckon(int sling, int byHook) {
        int[] r = {NONE, NONE, NONE, NONE, NONE, NONE, NONE};
        for (int t = 1; t <= 160; t++) {
            if (givenAt(t) <= 0) {
                r[1] = t;
                return r;
            }
            if (t * (beam + 2 * sling) / (2 * sling) >= 100 + byHook) {
                r[0] = t;
                break;
            }
        }
        if (r[0] == NONE) {
            return r;
        }
        r[2] = givenAt(r[0]);
        r[3] = 180 - (r[0] - start) - byHook;
        if (r[3] < 1 || r[3] > 89) {
            return r;
        }
        long longArm = (long) (beam + sling) * (beam + sling);
        r[4] = (int) floor(2L * r[2] * longArm, (long) box * arm * arm + weight * longArm);
        r[5] = (int) floor((long) r[4] * sine(2 * r[3]), 8000);
        int calm = fly(kind, r[5]);
        r[6] = Math.max(0, calm + wind * calm / 100);
        return r;
    }

    private int fly(int ofKind, int r) {
        if (ofKind == 0) {
            return (int) Math.max(0, r - floor((long) r * r, 20L * weight + 2000));
        }
        int up = fly(ofKind - 1, r);
        if (ofKind == 1) {
            return (int) (up - ceil(up, 8));
        }
        return (int) Math.max(0, up - 2 * floor(up, 25) - 3);
    }

    public int throwing(int what) {
        return in(what, 0, 6) ? reckon(slingLength, hook)[what] : -1;
    }

    public int flight(int ofKind, int r) {
        if (!in(ofKind, 0, 2) || !in(r, 0, 20000)) {
            return -1;
        }
        trace += 1;
        trace += ofKind >= 1 ? 10 : 0;
        trace += ofKind >= 2 ? 100 : 0;
        return fly(ofKind, r);
    }

    public int tune(int from, int to, int distance, int what) {
        if (!in(from, 10, 160) || !in(to, 10, 160) || from > to || !in(distance, 0, 2000) || !in(what, 0, 2)) {
            return -1;
        }
        int[] best = {NONE, NONE, NONE};
        for (int s = from; s <= to; s++) {
            for (int k = 0; k <= 60; k++) {
                int range = reckon(s, k)[6];
                if (range != NONE && (best[2] == NONE || Math.abs(range - distance) < Math.abs(best[2] - distance))) {
                    best = new int[] {s, k, range};
                }
            }
        }
        return best[what];
    }

    // ---- ranging

    public int spread(int v) {
        if (!in(v, 0, 50)) {
            return -1;
        }
        int was = spread;
        spread = v;
        return was;
    }

    public int shot(int byHook, int fell) {
        if (!in(byHook, 0, 60) || !in(fell, 0, 2000)) {
            return -1;
        }
        if (told == 16) {
            return -3;
        }
        shots[told][0] = byHook;
        shots[told][1] = fell;
        return ++told;
    }

    public int clear() {
        int were = told;
        told = 0;
        return were;
    }

    private int[] book() {
        int[] ranges = new int[61];
        for (int k = 0; k <= 60; k++) {
            ranges[k] = reckon(slingLength, k)[6];
        }
        return ranges;
    }

    private static int lands(int range, int scale, int drift) {
        return (int) floor((long) range * scale, 100) + drift;
    }

    private boolean bearsAll(int[] ranges, int scale, int drift) {
        for (int i = 0; i < told; i++) {
            int range = ranges[shots[i][0]];
            if (range == NONE || Math.abs(lands(range, scale, drift) - shots[i][1]) > spread) {
                return false;
            }
        }
        return true;
    }

    /** All pairs that are LEFT, each a scale and a drift. */
    private int[][] pairs(int[] ranges) {
        int[][] pairs = new int[31 * 25][];
        int n = 0;
        for (int scale = 85; scale <= 115; scale++) {
            for (int drift = -12; drift <= 12; drift++) {
                if (bearsAll(ranges, scale, drift)) {
                    pairs[n++] = new int[] {scale, drift};
                }
            }
        }
        return Arrays.copyOf(pairs, n);
    }

    public int left() {
        return pairs(book()).length;
    }

    private static int[] ends(int range, int[][] pairs) {
        int[] ends = {Integer.MAX_VALUE, Integer.MIN_VALUE};
        for (int[] p : pairs) {
            int at = lands(range, p[0], p[1]);
            ends[0] = Math.min(ends[0], at);
            ends[1] = Math.max(ends[1], at);
        }
        return ends;
    }

    public int span(int byHook, int what) {
        if (!in(byHook, 0, 60) || !in(what, 0, 1)) {
            return -2000;
        }
        int[] ranges = book();
        int[][] pairs = pairs(ranges);
        return pairs.length == 0 || ranges[byHook] == NONE ? -1000 : ends(ranges[byHook], pairs)[what];
    }

    public int next() {
        int[] ranges = book();
        int[][] pairs = pairs(ranges);
        int best = NONE;
        int widest = -1;
        for (int k = 0; k <= 60 && pairs.length > 0; k++) {
            if (ranges[k] != NONE) {
                int[] ends = ends(ranges[k], pairs);
                if (ends[1] - ends[0] > widest) {
                    widest = ends[1] - ends[0];
                    best = k;
                }
            }
        }
        return best;
    }

    public int surest(int distance, int what) {
        if (!in(distance, 0, 2000) || !in(what, 0, 1)) {
            return -1;
        }
        int[] ranges = book();
        int[][] pairs = pairs(ranges);
        int[] best = {NONE, NONE};
        for (int k = 0; k <= 60 && pairs.length > 0; k++) {
            if (ranges[k] == NONE) {
                continue;
            }
            int farthest = 0;
            for (int[] p : pairs) {
                farthest = Math.max(farthest, Math.abs(lands(ranges[k], p[0], p[1]) - distance));
            }
            if (best[0] == NONE || farthest < best[1]) {
                best = new int[] {k, farthest};
            }
        }
        return best[what];
    }

    // ---- the wall

    public int wall(int w, int h) {
        if (!in(w, 1, 8) || !in(h, 1, 6)) {
            return -1;
        }
        cells = new Cells(w, h);
        return w * h;
    }

    public int strength(int x, int y, int v) {
        if (!cells.has(x, y) || !in(v, 1, 99)) {
            return -1;
        }
        if (!cells.stands[x][y]) {
            return -2;
        }
        int was = cells.strength[x][y];
        cells.strength[x][y] = v;
        return was;
    }

    public int prop(int x, int y) {
        if (!cells.has(x, y)) {
            return -1;
        }
        if (!cells.stands[x][y]) {
            return -2;
        }
        int was = cells.propped[x][y] ? 1 : 0;
        cells.propped[x][y] = true;
        return was;
    }

    public int hit(int x, int y, int force) {
        if (!cells.has(x, y) || !in(force, 1, 99)) {
            return -1;
        }
        return cells.stands[x][y] ? cells.hit(x, y, force) : -2;
    }

    public int cell(int x, int y, int what) {
        if (!cells.has(x, y) || !in(what, 0, 2)) {
            return -1;
        }
        if (what == 1) {
            return cells.strength[x][y];
        }
        return (what == 0 ? cells.stands : cells.propped)[x][y] ? 1 : 0;
    }

    public int level(int v) {
        if (!in(v, 0, 2)) {
            return -1;
        }
        int was = level;
        level = v;
        return was;
    }

    private int openWay(Cells c) {
        for (int x = 0; x < c.w; x++) {
            if (c.standing(x) <= level) {
                return x;
            }
        }
        return NONE;
    }

    public int open() {
        return openWay(cells);
    }

    /** Every plan that gives each cell no hit, one, or all that it bears, struck from below up. */
    private int fewestHits(int x, int force) {
        int fewest = Integer.MAX_VALUE;
        for (int plan = 0; plan < 729; plan++) {
            Cells c = cells.copy();
            int hits = 0;
            int rest = plan;
            for (int y = 0; y < c.h; y++) {
                int kindOfPlan = rest % 3;
                rest /= 3;
                int wanted = kindOfPlan == 2 ? 99 : kindOfPlan;
                for (int i = 0; i < wanted && c.stands[x][y]; i++) {
                    c.hit(x, y, force);
                    hits++;
                }
            }
            if (c.standing(x) <= level) {
                fewest = Math.min(fewest, hits);
            }
        }
        return fewest;
    }

    public int soonest(int force, int what) {
        if (!in(force, 1, 99) || !in(what, 0, 1)) {
            return -1;
        }
        int column = 0;
        int fewest = Integer.MAX_VALUE;
        for (int x = 0; x < cells.w; x++) {
            int hits = fewestHits(x, force);
            if (hits < fewest) {
                fewest = hits;
                column = x;
            }
        }
        return what == 0 ? column : fewest;
    }

    public int scatter(int across, int up, int v) {
        if (!in(across, -1, 1) || !in(up, -1, 1) || !in(v, 0, 9)) {
            return -1;
        }
        int was = weights[across + 1][up + 1];
        weights[across + 1][up + 1] = v;
        return was;
    }

    public int worth(int x, int y, int force) {
        if (!cells.has(x, y) || !in(force, 1, 99)) {
            return -1;
        }
        int worth = 0;
        for (int across = -1; across <= 1; across++) {
            for (int up = -1; up <= 1; up++) {
                worth += weights[across + 1][up + 1] * cells.copy().hit(x + across, y + up, force);
            }
        }
        return worth;
    }

    public int aim(int force, int what) {
        if (!in(force, 1, 99) || !in(what, 0, 1)) {
            return -1;
        }
        int[] best = {NONE, -1};
        for (int y = 0; y < cells.h; y++) {
            for (int x = 0; x < cells.w; x++) {
                if (worth(x, y, force) > best[1]) {
                    best = new int[] {x + cells.w * y, worth(x, y, force)};
                }
            }
        }
        return best[what];
    }

    public long held(int x, int y, int force, int t) {
        if (!cells.has(x, y) || !in(force, 1, 99) || !in(t, 1, 4)) {
            return -1;
        }
        long together = 0;
        int rows = 1;
        for (int i = 0; i < t; i++) {
            rows *= 9;
        }
        for (int row = 0; row < rows; row++) {
            Cells c = cells.copy();
            long product = 1;
            int rest = row;
            for (int i = 0; i < t; i++) {
                int across = rest % 9 % 3 - 1;
                int up = rest % 9 / 3 - 1;
                rest /= 9;
                product *= weights[across + 1][up + 1];
                if (product == 0) {
                    break;
                }
                c.hit(x + across, y + up, force);
            }
            together += product != 0 && openWay(c) == NONE ? product : 0;
        }
        return together;
    }

    // ---- the handling

    private int number() {
        return Arrays.asList("REST", "WOUND", "SLUNG", "CLEAR").indexOf(how);
    }

    public int wound() {
        if (!how.equals("REST")) {
            return -2;
        }
        how = "WOUND";
        return 1;
    }

    public int sling() {
        if (!how.equals("WOUND")) {
            return -2;
        }
        how = "SLUNG";
        return 2;
    }

    public int near(int men) {
        if (!in(men, 0, 200)) {
            return -1;
        }
        if (how.equals("SLUNG") && men == 0) {
            how = "CLEAR";
        } else if (how.equals("CLEAR") && men > 0) {
            how = "SLUNG";
        }
        return number();
    }

    public int loose(int x, int y, int distance) {
        if (!cells.has(x, y) || !in(distance, 0, 2000)) {
            return -1;
        }
        if (!how.equals("CLEAR") || stores[1] == 0) {
            return -2;
        }
        int range = reckon(slingLength, hook)[6];
        how = "REST";
        stores[1]--;
        loosed++;
        if (range == NONE) {
            return -3;
        }
        if (cells.stands[x][y] && Math.abs(range - distance) <= 5) {
            cells.hit(x, y, (int) Math.min(99, floor((long) weight * range, 500) + 1));
        }
        return range;
    }

    // ---- the siege

    public int store(int what, int v) {
        if (!in(what, 0, 4) || !in(v, STORE_LEAST[what], STORE_MOST[what])) {
            return -1;
        }
        int was = stores[what];
        stores[what] = v;
        return was;
    }

    public int wet(int n, int bits) {
        if (!in(n, 1, 20) || bits < 0 || Integer.toBinaryString(bits).length() > n) {
            return -1;
        }
        wetLength = n;
        wetBits = bits;
        return n;
    }

    /** Shot by shot, each for its turns and its stone, as the document tells the day. */
    public int lasts(int r) {
        if (!in(r, 0, 60)) {
            return -1;
        }
        int stones = stores[1], timber = stores[2], food = stores[3], worn = 0;
        for (int d = 0; d < 100; d++) {
            boolean wet = (wetBits & (1 << (d % wetLength))) != 0;
            if (food < stores[0]) {
                return d;
            }
            food -= stores[0];
            int turnsOfDay = 30 * stores[0];
            for (int i = 0; i < r; i++) {
                int cost = (int) ceil((long) box * arm, 1000);
                cost += wet ? (int) ceil(cost, 4) : 0;
                if (turnsOfDay < cost || stones < 1) {
                    return d;
                }
                turnsOfDay -= cost;
                stones--;
                worn += wet ? 2 : 1;
                if (worn >= stores[4]) {
                    if (timber < 3) {
                        return d;
                    }
                    timber -= 3;
                    worn = 0;
                }
            }
        }
        return 100;
    }

    public int rate(int days) {
        if (!in(days, 1, 100)) {
            return -1;
        }
        int best = NONE;
        for (int r = 0; r <= 60; r++) {
            if (lasts(r) >= days) {
                best = r;
            }
        }
        return best;
    }

    public int count(int what) {
        int open = 0;
        for (int x = 0; x < cells.w; x++) {
            open += cells.standing(x) <= level ? 1 : 0;
        }
        int[] counts = {number(), cells.w, cells.h, cells.standing(), told, loosed, stores[1], open};
        return in(what, 0, 7) ? counts[what] : -1;
    }

    public long trace() {
        return trace;
    }
}
