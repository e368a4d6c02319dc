import java.util.ArrayDeque;
import java.util.Deque;
import java.util.HashMap;
import java.util.Map;

/**
 * SOONEST against a search through every wall that hits on one column can lead to, for walls of one column: no
 * thought about which hits are worth making goes into it.
 */
public final class SoonestTest {
    private static final int WALLS = 3000;
    private static long seed = 7;

    public static void main(String[] args) {
        int wrong = 0;
        for (int i = 0; i < WALLS; i++) {
            int h = pick(1, 5);
            int level = pick(0, 2);
            int force = pick(1, 3);
            int[] strengths = new int[h];
            WallStones x = new WallStones();
            x.wall(1, h);
            x.level(level);
            int state = (1 << h) - 1;
            for (int y = 0; y < h; y++) {
                strengths[y] = pick(1, 4 * force);
                x.strength(0, y, strengths[y]);
                if (pick(0, 1) == 1) {
                    x.prop(0, y);
                    state |= 1 << (h + y);
                }
            }
            if (pick(0, 1) == 1) {
                int y = pick(0, h - 1);
                x.hit(0, y, 99);
                strengths[y] -= 99;
                state = fallen(state & ~(1 << y) & ~(1 << (h + y)), h);
            }
            int got = x.soonest(force, 1);
            int want = search(strengths, state, h, level, force);
            if (got != want) {
                wrong++;
                System.out.println("wall " + i + ": soonest answered " + got + ", due is " + want);
            }
        }
        System.out.println(wrong == 0 ? WALLS + " columns are as searched" : wrong + " columns are not as due");
        if (wrong != 0) {
            System.exit(1);
        }
    }

    /** A state: bits of what stands, bits of what is propped, then three bits a cell: how many hits it had. */
    private static int search(int[] strengths, int first, int h, int level, int force) {
        Map<Integer, Integer> hits = new HashMap<>();
        Deque<Integer> open = new ArrayDeque<>();
        hits.put(first, 0);
        open.add(first);
        while (!open.isEmpty()) {
            int state = open.remove();
            if (Integer.bitCount(state & ((1 << h) - 1)) <= level) {
                return hits.get(state);
            }
            for (int y = 0; y < h; y++) {
                if ((state >> y & 1) != 0) {
                    int then = (state & ~(1 << (h + y))) + (1 << (2 * h + 3 * y));
                    int had = then >> (2 * h + 3 * y) & 7;
                    then = fallen(had * force >= strengths[y] ? then & ~(1 << y) : then, h);
                    if (hits.putIfAbsent(then, hits.get(state) + 1) == null) {
                        open.add(then);
                    }
                }
            }
        }
        throw new IllegalStateException("a column that never opens");
    }

    private static int fallen(int state, int h) {
        int then = state;
        for (int y = 1; y < h; y++) {
            if ((then >> (y - 1) & 1) == 0 && (then >> (h + y) & 1) == 0) {
                then &= ~(1 << y);
            }
        }
        return then;
    }

    private static int pick(int least, int most) {
        seed = seed * 6364136223846793005L + 1442695040888963407L;
        return least + (int) Math.floorMod(seed >> 20, (long) most - least + 1);
    }
}
