import java.lang.reflect.Method;
import java.util.Arrays;

/**
 * "Refused, and nothing changes": each refused call is made on one of two objects that are brought to the same state;
 * after it both must answer the same to a long row of questions, that tells all that they hold.
 */
public final class RefusedTest {
    private static final int MIN = Integer.MIN_VALUE, MAX = Integer.MAX_VALUE;
    private static final int BAD = -1, STATE = -2, FULL = -3, BAD_WIND = -100, BAD_SINE = -2000;
    private static final int REST = 0, WOUND = 1, SLUNG = 2, CLEAR = 3;
    private static final int ALL_SHOTS = 16;

    private static final Sentences S = new Sentences();

    /** For each call with numbers the least and the greatest of each, when the others are as in GOOD. */
    private static final Object[][] BOUNDS = {
        {"wind", BAD_WIND, -20, 20}, {"sine", BAD_SINE, -180, 180}, {"throwing", BAD, 0, 6},
        {"flight", BAD, 0, 2, 0, 20000}, {"tune", BAD, 10, 100, 60, 160, 0, 2000, 0, 2}, {"spread", BAD, 0, 50},
        {"shot", BAD, 0, 60, 0, 2000}, {"span", BAD_SINE, 0, 60, 0, 1}, {"surest", BAD, 0, 2000, 0, 1},
        {"wall", BAD, 1, 8, 1, 6}, {"strength", BAD, 0, 3, 0, 2, 1, 99}, {"prop", BAD, 0, 3, 0, 2},
        {"hit", BAD, 0, 3, 0, 2, 1, 99}, {"cell", BAD, 0, 3, 0, 2, 0, 2}, {"level", BAD, 0, 2},
        {"soonest", BAD, 1, 99, 0, 1}, {"scatter", BAD, -1, 1, -1, 1, 0, 9}, {"worth", BAD, 0, 3, 0, 2, 1, 99},
        {"aim", BAD, 1, 99, 0, 1}, {"held", BAD, 0, 3, 0, 2, 1, 99, 1, 4}, {"near", BAD, 0, 200},
        {"loose", BAD, 0, 3, 0, 2, 0, 2000}, {"lasts", BAD, 0, 60}, {"rate", BAD, 1, 100}, {"count", BAD, 0, 7},
    };

    /** Numbers that are as told, one for each of a call of BOUNDS. */
    private static final int[][] GOOD = {
        {0}, {0}, {0}, {1, 100}, {60, 60, 100, 0}, {5}, {60, 100}, {60, 0}, {100, 0}, {2, 2}, {1, 1, 50}, {1, 1},
        {1, 1, 9}, {1, 1, 0}, {1}, {9, 0}, {0, 0, 1}, {1, 1, 9}, {9, 0}, {1, 1, 9, 2}, {0}, {1, 1, 100}, {1}, {1}, {0},
    };

    private static final int[] SET_LEAST = {5, 20, 100, 10, 0, 10, 0, 1, 0};
    private static final int[] SET_MOST = {40, 160, 9000, 160, 60, 60, 900, 300, 2};
    private static final int[] STORE_LEAST = {1, 0, 0, 0, 1};
    private static final int[] STORE_MOST = {200, 9999, 9999, 9999, 200};

    public static void main(String[] args) throws ReflectiveOperationException {
        for (int i = 0; i < BOUNDS.length; i++) {
            outOfBounds(BOUNDS[i], GOOD[i]);
        }
        byTable("set", SET_LEAST, SET_MOST);
        byTable("store", STORE_LEAST, STORE_MOST);
        crossed();
        states();
        full();
        S.end();
    }

    private static void outOfBounds(Object[] bounds, int[] good) throws ReflectiveOperationException {
        String name = (String) bounds[0];
        S.say("refused, and nothing changes: " + name);
        for (int i = 0; i < good.length; i++) {
            int least = (Integer) bounds[2 + 2 * i];
            int most = (Integer) bounds[3 + 2 * i];
            int above = name.equals("tune") && i == 0 ? 161 : most + 1;
            int below = name.equals("tune") && i == 1 ? 9 : least - 1;
            for (int bad : new int[] {below, above, MIN, MAX}) {
                int[] numbers = good.clone();
                numbers[i] = bad;
                everywhere(name, (Integer) bounds[1], numbers);
            }
        }
        for (int far : new int[] {MIN, MAX}) {
            int[] numbers = new int[good.length];
            Arrays.fill(numbers, far);
            everywhere(name, (Integer) bounds[1], numbers);
        }
    }

    private static void byTable(String name, int[] least, int[] most) throws ReflectiveOperationException {
        S.say("refused, and nothing changes: " + name);
        for (int what = 0; what < least.length; what++) {
            for (int bad : new int[] {least[what] - 1, most[what] + 1, MIN, MAX}) {
                everywhere(name, BAD, what, bad);
            }
        }
        for (int what : new int[] {-1, least.length, MIN, MAX}) {
            everywhere(name, BAD, what, 50);
            everywhere(name, BAD, what, what);
        }
    }

    private static void crossed() throws ReflectiveOperationException {
        S.say("refused, and nothing changes: tune, from above to");
        everywhere("tune", BAD, 61, 60, 100, 0);
        everywhere("tune", BAD, 160, 10, 100, 0);
        S.say("refused, and nothing changes: wet");
        int[][] bad = {{0, 0}, {21, 0}, {1, 2}, {1, -1}, {5, 32}, {20, 1 << 20}, {20, -1}, {MIN, 0}, {MAX, 0}, {5, MIN},
            {5, MAX}, {MIN, MIN}, {MAX, MAX}, {32, 1}, {33, 1}};
        for (int[] b : bad) {
            everywhere("wet", BAD, b);
        }
    }

    private static void states() throws ReflectiveOperationException {
        S.say("STATE, and nothing changes: a fallen CELL");
        int[][] fallen = {{2, 0}, {2, 1}, {2, 2}};
        for (int[] c : fallen) {
            everywhere("strength", STATE, c[0], c[1], 50);
            everywhere("prop", STATE, c[0], c[1]);
            everywhere("hit", STATE, c[0], c[1], 99);
        }
        S.say("STATE, and nothing changes: the handling out of its order");
        for (int how = REST; how <= CLEAR; how++) {
            if (how != REST) {
                alike(how, 2, "wound", STATE);
            }
            if (how != WOUND) {
                alike(how, 2, "sling", STATE);
            }
            if (how != CLEAR) {
                alike(how, 2, "loose", STATE, 1, 1, 190);
            }
        }
    }

    private static void full() throws ReflectiveOperationException {
        S.say("FULL, and nothing changes: the 17th SHOT");
        for (int how = REST; how <= CLEAR; how++) {
            alike(how, ALL_SHOTS, "shot", FULL, 60, 100);
            alike(how, ALL_SHOTS, "shot", FULL, 0, 0);
            alike(how, ALL_SHOTS, "shot", BAD, 61, 100);
            alike(how, ALL_SHOTS, "shot", BAD, 60, 2001);
        }
    }

    private static void everywhere(String name, int due, int... numbers) throws ReflectiveOperationException {
        for (int how = REST; how <= CLEAR; how++) {
            alike(how, 2, name, due, numbers);
        }
    }

    /** One of the two objects is asked what is refused; then both must be alike. */
    private static void alike(int how, int shots, String name, int due, int... numbers) throws ReflectiveOperationException {
        WallStones asked = ready(how, shots);
        WallStones other = ready(how, shots);
        String call = name + Arrays.toString(numbers) + " of " + how;
        S.due(call, ask(asked, name, numbers), due);
        S.holds(call + " changed nothing", Arrays.equals(told(asked), told(other)));
    }

    private static long ask(WallStones x, String name, int... numbers) throws ReflectiveOperationException {
        Class<?>[] ints = new Class<?>[numbers.length];
        Arrays.fill(ints, int.class);
        Object[] given = new Object[numbers.length];
        for (int i = 0; i < numbers.length; i++) {
            given[i] = numbers[i];
        }
        Method m = WallStones.class.getMethod(name, ints);
        return ((Number) m.invoke(x, given)).longValue();
    }

    /** An object that holds something of everything. */
    private static WallStones ready(int how, int shots) {
        WallStones x = new WallStones();
        x.set(2, 9000);
        x.set(3, 60);
        x.set(4, 60);
        x.set(5, 20);
        x.wind(3);
        x.spread(7);
        for (int i = 0; i < shots; i++) {
            x.shot(60, 195 + i % 3);
        }
        x.wall(4, 3);
        x.strength(0, 0, 33);
        x.strength(1, 1, 60);
        x.prop(1, 2);
        x.prop(3, 1);
        x.hit(2, 0, 12);
        x.hit(3, 0, 4);
        x.level(1);
        x.scatter(-1, 0, 2);
        x.scatter(1, 1, 3);
        x.flight(2, 500);
        x.store(0, 33);
        x.store(1, 55);
        x.store(2, 17);
        x.store(3, 700);
        x.store(4, 9);
        x.wet(5, 19);
        handle(x, CLEAR);
        x.loose(1, 1, 200);
        handle(x, how);
        return x;
    }

    private static void handle(WallStones x, int how) {
        if (how >= WOUND) {
            x.wound();
        }
        if (how >= SLUNG) {
            x.sling();
        }
        if (how >= CLEAR) {
            x.near(0);
        }
    }

    private static long[] told(WallStones x) {
        long[] told = new long[200];
        int n = 0;
        for (int what = 0; what <= 7; what++) {
            told[n++] = x.count(what);
        }
        told[n++] = x.trace();
        for (int what = 0; what <= 6; what++) {
            told[n++] = x.throwing(what);
        }
        told[n++] = x.left();
        told[n++] = x.span(60, 0);
        told[n++] = x.span(60, 1);
        told[n++] = x.next();
        told[n++] = x.surest(100, 1);
        for (int cx = 0; cx < 8; cx++) {
            for (int cy = 0; cy < 6; cy++) {
                told[n++] = x.cell(cx, cy, 0) * 1000 + x.cell(cx, cy, 1) * 10 + x.cell(cx, cy, 2);
            }
        }
        told[n++] = x.lasts(1);
        told[n++] = x.lasts(4);
        told[n++] = x.rate(5);
        told[n++] = x.wind(0);
        told[n++] = x.spread(0);
        told[n++] = x.level(0);
        for (int i = 0; i < 9; i++) {
            told[n++] = x.scatter(i % 3 - 1, i / 3 - 1, 0);
        }
        for (int what = 0; what < STORE_LEAST.length; what++) {
            told[n++] = x.store(what, 1);
        }
        // the shots told, by those that are still taken
        told[n++] = x.shot(60, 100);
        told[n++] = x.clear();
        for (int what = 0; what < SET_LEAST.length; what++) {
            told[n++] = x.set(what, SET_LEAST[what]);
        }
        return told;
    }
}
