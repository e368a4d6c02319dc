import java.lang.reflect.Method;
import java.util.ArrayList;
import java.util.Arrays;
import java.util.List;

/**
 * Long runs of calls, told by a fixed row of numbers, on WallStones and on the document read word by word
 * (PlainStones): every answer must be the same.
 */
public final class PlainTest {
    private static final int RUNS = 240, CALLS = 512;
    private static final int[][] MACHINE = {
        {5, 40}, {20, 160}, {100, 9000}, {10, 160}, {0, 60}, {10, 60}, {0, 900}, {1, 300}, {0, 2}
    };
    private static final int[][] STORES = {{1, 200}, {0, 9999}, {0, 9999}, {0, 9999}, {1, 200}};

    private static long seed = 20260101;
    private static int wrong = 0;

    /** Calls by name, each with how often it comes and the least and greatest of its arguments. */
    private static final Object[][] CALLS_OF = {
        {"set", 14, 0, 8, 0, 0}, {"wind", 3, -20, 20}, {"sine", 1, -180, 180}, {"throwing", 5, 0, 6},
        {"flight", 3, 0, 2, 0, 20000}, {"tune", 1, 10, 160, 10, 160, 0, 2000, 0, 2}, {"spread", 2, 0, 50},
        {"shot", 6, 0, 60, 0, 2000}, {"clear", 2}, {"left", 3}, {"span", 4, 0, 60, 0, 1}, {"next", 2},
        {"surest", 3, 0, 2000, 0, 1}, {"wall", 1, 1, 8, 1, 6}, {"strength", 8, 0, 7, 0, 5, 1, 99},
        {"prop", 6, 0, 7, 0, 5}, {"hit", 10, 0, 7, 0, 5, 1, 99}, {"cell", 6, 0, 7, 0, 5, 0, 2}, {"level", 1, 0, 2},
        {"open", 2}, {"soonest", 3, 1, 99, 0, 1}, {"scatter", 4, -1, 1, -1, 1, 0, 9}, {"worth", 4, 0, 7, 0, 5, 1, 99},
        {"aim", 2, 1, 99, 0, 1}, {"held", 1, 0, 7, 0, 5, 1, 99, 1, 4}, {"wound", 8}, {"sling", 8}, {"near", 9, 0, 200},
        {"loose", 8, 0, 7, 0, 5, 0, 2000}, {"store", 5, 0, 4, 0, 0}, {"wet", 2, 1, 20, 0, 0}, {"lasts", 2, 0, 60},
        {"rate", 1, 1, 100}, {"count", 5, 0, 7}, {"trace", 2},
    };

    public static void main(String[] args) throws ReflectiveOperationException {
        List<Integer> row = rowOfCalls();
        for (int run = 1; run <= RUNS && wrong < 20; run++) {
            oneRun(run, row);
        }
        System.out.println(wrong == 0 ? RUNS + " runs as the plain reading" : wrong + " answers are not as due");
        if (wrong != 0) {
            System.exit(1);
        }
    }

    private static List<Integer> rowOfCalls() {
        List<Integer> row = new ArrayList<>();
        for (int i = 0; i < CALLS_OF.length; i++) {
            for (int n = 0; n < (Integer) CALLS_OF[i][1]; n++) {
                row.add(i);
            }
        }
        return row;
    }

    private static void oneRun(int run, List<Integer> row) throws ReflectiveOperationException {
        WallStones x = new WallStones();
        PlainStones plain = new PlainStones();
        if (run % 3 != 0) {
            readyMachine(x, plain);
        }
        for (int i = callsOfReadying(run); i < CALLS && wrong < 20; i++) {
            Object[] call = CALLS_OF[row.get(pick(0, row.size() - 1))];
            ask(run, x, plain, (String) call[0], argumentsFor(call, plain));
        }
    }

    /** Most machines of chance stall or are lost: this one throws by most hooks. */
    private static void readyMachine(WallStones x, PlainStones plain) {
        int[][] sets = {{2, pick(5000, 9000)}, {5, pick(10, 40)}, {6, pick(0, 200)}, {7, pick(20, 90)}, {3, pick(60, 160)}, {4, pick(40, 60)}};
        for (int[] s : sets) {
            x.set(s[0], s[1]);
            plain.set(s[0], s[1]);
        }
    }

    private static int callsOfReadying(int run) {
        return run % 3 != 0 ? 6 : 0;
    }

    private static Object[] argumentsFor(Object[] call, PlainStones plain) {
        Object[] a = new Object[(call.length - 2) / 2];
        for (int i = 0; i < a.length; i++) {
            a[i] = number((Integer) call[2 + 2 * i], (Integer) call[3 + 2 * i]);
        }
        switch ((String) call[0]) {
            case "set":
                a[1] = byTable(MACHINE, (Integer) a[0]);
                break;
            case "store":
                a[1] = byTable(STORES, (Integer) a[0]);
                break;
            case "wet":
                a[1] = number(0, (1 << Math.min(20, Math.max(1, (Integer) a[0]))) - 1);
                break;
            case "near":
                a[0] = pick(0, 3) > 0 ? 0 : a[0];
                break;
            case "tune":
                a[1] = pick(0, 5) == 0 ? a[1] : (Integer) a[0] + pick(0, 3);
                break;
            case "shot":
                a[1] = pick(0, 5) == 0 ? a[1] : aroundRange(plain, (Integer) a[0]);
                break;
            case "loose":
                a[2] = pick(0, 3) == 0 ? a[2] : Math.max(0, plain.throwing(6) + pick(-7, 7));
                break;
            case "worth": case "hit": case "strength": case "prop": case "cell": case "held":
                a[0] = pick(0, 4) == 0 ? a[0] : pick(0, plain.count(1) - 1);
                a[1] = pick(0, 4) == 0 ? a[1] : pick(0, plain.count(2) - 1);
                break;
            default:
        }
        return a;
    }

    private static int byTable(int[][] table, int what) {
        return what < 0 || what >= table.length ? 0 : number(table[what][0], table[what][1]);
    }

    /** Where a hook lands by a book that is wrong by a twentieth, so that some pairs stay left. */
    private static int aroundRange(PlainStones plain, int hook) {
        int least = plain.span(hook, 0);
        int greatest = plain.span(hook, 1);
        return least < 0 || greatest < least ? pick(0, 300) : pick(least, greatest);
    }

    /** Mostly inside, often at the ends, now and then beside them or far off. */
    private static int number(int least, int most) {
        switch (pick(0, 29)) {
            case 0:
                return least - 1;
            case 1:
                return most + 1;
            case 2: case 3:
                return least;
            case 4: case 5:
                return most;
            case 6:
                return pick(0, 5) > 0 ? least : new int[] {Integer.MIN_VALUE, Integer.MAX_VALUE, -1, 1 << 30}[pick(0, 3)];
            default:
                return pick(least, most);
        }
    }

    private static int pick(int least, int most) {
        seed = seed * 6364136223846793005L + 1442695040888963407L;
        return least + (int) Math.floorMod(seed >> 20, (long) most - least + 1);
    }

    private static void ask(int run, WallStones x, PlainStones plain, String name, Object[] a)
            throws ReflectiveOperationException {
        Class<?>[] ints = new Class<?>[a.length];
        Arrays.fill(ints, int.class);
        Method due = PlainStones.class.getMethod(name, ints);
        due.setAccessible(true);
        Object want = due.invoke(plain, a);
        Object got = WallStones.class.getMethod(name, ints).invoke(x, a);
        if (!got.equals(want)) {
            wrong++;
            System.out.println("run " + run + ": " + name + Arrays.toString(a) + " answered " + got + ", due is " + want);
        }
    }
}
