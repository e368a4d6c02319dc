/** The sentences of "2 THE BOOK", promises 8 to 14, that name a boundary, each at its edge. */
public final class EdgesBookTest {
    private static final Sentences S = new Sentences();
    private static final int FAR_BELOW = Integer.MIN_VALUE, FAR_ABOVE = Integer.MAX_VALUE;

    public static void main(String[] args) {
        book();
        scales();
        drifts();
        spreads();
        shots();
        noRange();
        spans();
        spansRefused();
        next();
        surest();
        surestRefused();
        asItIs();
        S.end();
    }

    /**
     * HOOKS 27 .. 60 have a RANGE: 15 by 27, 214 by 52, 53 and 54 (the most), 212 by 51 and 55, 197 by 60. The least
     * that 197 can land at is 167 (167.45) less 12, the most 226 (226.55) and 12.
     */
    private static WallStones machine() {
        WallStones x = new WallStones();
        x.set(3, 60);
        x.set(5, 20);
        x.set(2, 9000);
        return x;
    }

    private static int rangeBy(int hook) {
        WallStones x = machine();
        x.set(4, hook);
        return x.throwing(6);
    }

    /** How many pairs are LEFT by one SHOT of a HOOK. */
    private static int leftBy(int spread, int hook, int fell) {
        WallStones x = machine();
        x.spread(spread);
        x.shot(hook, fell);
        return x.left();
    }

    private static void book() {
        S.say("the runs below are by these RANGES");
        int[][] ranges = {{0, -9}, {26, -9}, {27, 15}, {33, 88}, {34, 102}, {51, 212}, {52, 214}, {53, 214}, {54, 214},
            {55, 212}, {60, 197}};
        for (int[] r : ranges) {
            S.due("RANGE by " + r[0], rangeBy(r[0]), r[1]);
        }
    }

    private static void scales() {
        S.say("LEFT: without SHOTS all pairs, of a SCALE 85 .. 115 and a DRIFT -12 .. 12");
        S.due("left()", machine().left(), 31 * 25);
        S.say("SCALE 85 is one, 84 is none");
        S.due("85 and -12", leftBy(0, 60, 155), 1);
        S.due("84 and -12", leftBy(0, 60, 153), 0);
        S.say("SCALE 115 is one, 116 is none");
        S.due("115 and 12", leftBy(0, 60, 238), 1);
        S.due("116 and 12", leftBy(0, 60, 240), 0);
        S.say("it lands at RANGE times SCALE by 100, rounded down");
        // 15 by 27: 12.75 by 85, 17.25 by 115
        WallStones x = machine();
        S.due("12 less 12", x.span(27, 0), 0);
        S.due("17 and 12", x.span(27, 1), 29);
    }

    private static void drifts() {
        S.say("DRIFT -12 is one, -13 is none");
        S.due("85 and -12", leftBy(0, 60, 155), 1);
        S.due("85 and -13", leftBy(0, 60, 154), 0);
        S.say("DRIFT 12 is one, 13 is none");
        S.due("115 and 12", leftBy(0, 60, 238), 1);
        S.due("115 and 13", leftBy(0, 60, 239), 0);
    }

    private static void spreads() {
        S.say("SPREAD (0 .. 50; 5 at first)");
        WallStones x = machine();
        for (int bad : new int[] {-1, 51, FAR_BELOW, FAR_ABOVE}) {
            S.due("spread(" + bad + ")", x.spread(bad), -1);
        }
        S.due("the least, told the first", x.spread(0), 5);
        S.due("too small", x.spread(-1), -1);
        S.due("the most, told the least", x.spread(50), 0);
        S.due("too large", x.spread(51), -1);
        S.due("told the most", x.spread(5), 50);
        int[] spreads = {0, 1, 5, 50};
        S.say("BEARS, if it lands within SPREAD of that: SPREAD beyond is within");
        for (int spread : spreads) {
            S.due("short by " + spread, leftBy(spread, 60, 155 - spread), 1);
            S.due("beyond by " + spread, leftBy(spread, 60, 238 + spread), 1);
        }
        S.say("BEARS, if it lands within SPREAD of that: 1 more than SPREAD is not");
        for (int spread : spreads) {
            S.due("short by " + spread + " and 1", leftBy(spread, 60, 154 - spread), 0);
            S.due("beyond by " + spread + " and 1", leftBy(spread, 60, 239 + spread), 0);
        }
        S.say("SPREAD becomes v for the SHOTS that were told, too");
        x = machine();
        x.shot(60, 150);
        S.due("by 5", x.left(), 1);
        x.spread(4);
        S.due("by 4", x.left(), 0);
        x.spread(6);
        S.due("by 6: -12 and -11", x.left(), 2);
    }

    private static void shots() {
        S.say("a SHOT tells a HOOK (0 .. 60) and where it fell (0 .. 2000)");
        WallStones x = machine();
        int[][] bad = {{-1, 0}, {61, 0}, {0, -1}, {0, 2001}, {FAR_BELOW, 0}, {FAR_ABOVE, 0}, {0, FAR_BELOW}, {0, FAR_ABOVE}};
        for (int[] b : bad) {
            S.due("shot(" + b[0] + ", " + b[1] + ")", x.shot(b[0], b[1]), -1);
        }
        S.due("none of them is told", x.count(4), 0);
        S.due("the least HOOK, at 0", x.shot(0, 0), 1);
        S.due("the most HOOK, at 2000", x.shot(60, 2000), 2);
        x.clear();
        S.say("SHOTS (16 at most): the 16th is told");
        for (int i = 1; i <= 16; i++) {
            S.due("shot " + i, x.shot(60, 197), i);
        }
        S.say("SHOTS (16 at most): FULL, and nothing changes");
        int left = x.left();
        S.due("the 17th", x.shot(60, 155), -3);
        S.due("the 18th", x.shot(60, 155), -3);
        S.due("16 told", x.count(4), 16);
        S.due("LEFT as before", x.left(), left);
        S.say("BAD comes before FULL");
        S.due("no such HOOK", x.shot(61, 0), -1);
        S.due("no such place", x.shot(60, 2001), -1);
        S.say("clear: how many there were, and there is room again");
        S.due("16", x.clear(), 16);
        S.due("none", x.clear(), 0);
        S.due("none is told", x.count(4), 0);
        S.due("all pairs are LEFT", x.left(), 775);
        x.spread(0);
        S.due("the first again", x.shot(60, 155), 1);
        S.due("it alone is to be borne", x.left(), 1);
        S.say("LEFT: pairs that BEAR all SHOTS");
        x = machine();
        x.spread(0);
        x.shot(60, 155);
        S.due("one pair", x.left(), 1);
        x.shot(52, 169);
        S.due("the same pair", x.left(), 1);
        x.shot(60, 155);
        S.due("the same SHOT", x.left(), 1);
        x.shot(52, 170);
        S.due("not all", x.left(), 0);
        S.say("the 16th SHOT is borne as the first is");
        x = machine();
        for (int i = 1; i <= 15; i++) {
            x.shot(60, 197);
        }
        S.holds("some are LEFT", x.left() > 0);
        x.shot(60, 0);
        S.due("none is LEFT", x.left(), 0);
    }

    private static void noRange() {
        S.say("not, where RANGE is NONE");
        for (int fell : new int[] {0, 5, 16, 2000}) {
            S.due("by the widest SPREAD, fell at " + fell, leftBy(50, 26, fell), 0);
        }
        S.say("where RANGE is 0 it lands, and BEARS");
        WallStones x = new WallStones();
        x.set(8, 2);
        x.spread(0);
        x.shot(42, 12);
        // of each SCALE the DRIFT 12
        S.due("left()", x.left(), 31);
        x.clear();
        x.shot(42, 13);
        S.due("left()", x.left(), 0);
    }

    private static void spans() {
        S.say("SPAN: the least, the greatest place where it lands by some pair that is LEFT");
        WallStones x = machine();
        S.due("least", x.span(60, 0), 155);
        S.due("greatest", x.span(60, 1), 238);
        x.spread(0);
        x.shot(60, 155);
        S.due("one pair, least", x.span(60, 0), 155);
        S.due("one pair, greatest", x.span(60, 1), 155);
        S.due("one pair, by another HOOK", x.span(52, 0), 169);
        S.due("one pair, by another HOOK", x.span(52, 1), 169);
        S.say("a place may lie below 0, and is no refusal");
        x = new WallStones();
        S.due("RANGE 4: 3 less 12", x.span(42, 0), -9);
        S.due("RANGE 4: 4 and 12", x.span(42, 1), 16);
        x.set(8, 2);
        S.due("RANGE 0: less 12", x.span(42, 0), -12);
        S.due("RANGE 0: and 12", x.span(42, 1), 12);
        S.say("SPAN of the first and of the last HOOK that has a RANGE");
        x = machine();
        S.due("27", x.span(27, 0), 0);
        S.due("60", x.span(60, 0), 155);
        S.say("span: -1000, where RANGE is NONE");
        for (int hook : new int[] {0, 26}) {
            S.due("span(" + hook + ", 0)", x.span(hook, 0), -1000);
            S.due("span(" + hook + ", 1)", x.span(hook, 1), -1000);
        }
        S.say("span: -1000, where none is LEFT");
        x.shot(60, 2000);
        S.due("span(60, 0)", x.span(60, 0), -1000);
        S.due("span(60, 1)", x.span(60, 1), -1000);
        S.due("span(26, 0)", x.span(26, 0), -1000);
    }

    private static void spansRefused() {
        S.say("span: -2000, BAD");
        WallStones x = machine();
        int[][] bad = {{-1, 0}, {61, 0}, {60, -1}, {60, 2}, {FAR_BELOW, 0}, {FAR_ABOVE, 1}, {60, FAR_BELOW}, {60, FAR_ABOVE}};
        for (int[] b : bad) {
            S.due("span(" + b[0] + ", " + b[1] + ")", x.span(b[0], b[1]), -2000);
        }
        S.say("span: BAD comes before none LEFT and before no RANGE");
        S.due("no RANGE by 26", x.span(26, 2), -2000);
        x.shot(60, 2000);
        S.due("none LEFT", x.span(61, 0), -2000);
        S.due("none LEFT", x.span(60, 2), -2000);
    }

    private static void next() {
        S.say("ASKED NEXT: the HOOK whose SPAN is widest; of several the least");
        WallStones x = machine();
        S.due("52, 53, 54 have 214", x.next(), 52);
        S.say("ASKED NEXT, where all SPANS are of one place: the least that has a RANGE");
        x.spread(0);
        x.shot(60, 155);
        S.due("one pair is LEFT", x.left(), 1);
        S.due("27", x.next(), 27);
        S.say("ASKED NEXT, where the last HOOK alone has a RANGE");
        x = lastAlone();
        S.due("HEIGHT by 60", heightBy(x, 60), 89);
        S.due("HEIGHT by 59", heightBy(x, 59), 90);
        S.due("60", x.next(), 60);
        S.due("SUREST too", x.surest(0, 0), 60);
        S.say("next: NONE, where none is LEFT");
        x = machine();
        x.shot(60, 2000);
        S.due("none LEFT", x.next(), -9);
        S.say("next: NONE, where no HOOK has a RANGE");
        x = new WallStones();
        x.set(2, 100);
        S.due("all pairs LEFT", x.left(), 775);
        S.due("no RANGE", x.next(), -9);
    }

    /** By a HOOK of 60 it lets go at 44, by one of 59 too. */
    private static WallStones lastAlone() {
        WallStones x = new WallStones();
        x.set(1, 160);
        x.set(2, 9000);
        x.set(3, 30);
        x.set(5, 13);
        return x;
    }

    private static int heightBy(WallStones x, int hook) {
        int was = x.set(4, hook);
        int height = x.throwing(3);
        x.set(4, was);
        return height;
    }

    private static void surest() {
        S.say("SUREST: the farthest miss of all pairs that are LEFT is least");
        WallStones x = machine();
        // by 52: 181 less 12 .. 246 and 12; for 2000 the least place is the farthest off, for 0 the greatest is
        S.due("for 2000", x.surest(2000, 0), 52);
        S.due("misses by 2000 less 169", x.surest(2000, 1), 1831);
        S.due("for 0", x.surest(0, 0), 27);
        S.due("misses by 29", x.surest(0, 1), 29);
        S.say("SUREST: of several the least, that land at one place");
        x.spread(0);
        x.shot(60, 155);
        S.due("52, 53, 54 land at 169", x.surest(169, 0), 52);
        S.due("misses nothing", x.surest(169, 1), 0);
        S.due("for 2000", x.surest(2000, 0), 52);
        S.say("SUREST: of several the least, that land short and beyond");
        S.due("33 lands at 62", x.span(33, 0), 62);
        S.due("34 lands at 74", x.span(34, 0), 74);
        S.due("68", x.surest(68, 0), 33);
        S.due("68, by 6", x.surest(68, 1), 6);
        S.due("69", x.surest(69, 0), 34);
        S.due("69, by 5", x.surest(69, 1), 5);
        S.due("67", x.surest(67, 0), 33);
        S.say("SUREST for the least distance, where one lands at 0");
        S.due("27 lands at 12 less 12", x.surest(0, 0), 27);
        S.due("misses nothing", x.surest(0, 1), 0);
    }

    private static void surestRefused() {
        WallStones x = machine();
        S.say("surest: distance 0 .. 2000, what 0 .. 1");
        int[][] bad = {{-1, 0}, {2001, 0}, {0, -1}, {0, 2}, {FAR_BELOW, 0}, {FAR_ABOVE, 0}, {0, FAR_BELOW}, {0, FAR_ABOVE}};
        for (int[] b : bad) {
            S.due("surest(" + b[0] + ", " + b[1] + ")", x.surest(b[0], b[1]), -1);
        }
        S.say("surest: NONE, where none is LEFT, of the miss too");
        x.shot(60, 2000);
        S.due("the HOOK", x.surest(100, 0), -9);
        S.due("the miss", x.surest(100, 1), -9);
        S.say("surest: BAD comes before NONE");
        S.due("distance", x.surest(2001, 0), -1);
        S.due("what", x.surest(0, 2), -1);
        S.say("surest: NONE, where no HOOK has a RANGE, of the miss too");
        x = new WallStones();
        x.set(2, 100);
        S.due("the HOOK", x.surest(0, 0), -9);
        S.due("the miss", x.surest(0, 1), -9);
    }

    private static void asItIs() {
        S.say("THE BOOK is of THE MACHINE as it is: SHOTS are judged anew");
        WallStones x = machine();
        x.spread(0);
        x.shot(60, 155);
        S.due("one pair", x.left(), 1);
        x.set(2, 100);
        S.due("no RANGE now", x.left(), 0);
        x.set(2, 9000);
        S.due("as it was", x.left(), 1);
        x.wind(20);
        // 197 and 39 is 236: 236 by 85 is 200 less 12, beyond 155
        S.due("by the wind", x.left(), 0);
        S.due("236 by 85 .. 115, but none is LEFT", x.span(60, 0), -1000);
        x.wind(0);
        x.set(8, 2);
        S.holds("by the KIND at hand", x.left() != 1);
        x.set(8, 0);
        S.say("THE BOOK is by HOOKS 0 .. 60: the HOOK at hand is nothing to it");
        x.set(4, 0);
        S.due("left()", x.left(), 1);
        S.due("span(52, 0)", x.span(52, 0), 169);
        S.due("the HOOK stays", x.set(4, 60), 0);
        S.due("left()", x.left(), 1);
        S.say("SCALE and DRIFT are of THE BOOK alone: what lands is RANGE");
        S.due("throwing(6)", x.throwing(6), 197);
    }
}
