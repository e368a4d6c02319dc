/** The sentences of "4 THE HANDLING", promises 27 to 30 and 35, that name a boundary, each at its edge. */
public final class EdgesHandlingTest {
    private static final Sentences S = new Sentences();
    private static final int FAR_BELOW = Integer.MIN_VALUE, FAR_ABOVE = Integer.MAX_VALUE;
    private static final int REST = 0, WOUND = 1, SLUNG = 2, CLEAR = 3;
    private static final int[] FIRST = {12, 60, 4000, 50, 30, 40, 100, 50, 0};

    public static void main(String[] args) {
        order();
        menNear();
        menTold();
        setTold();
        letsNothingDown();
        looseRefused();
        looseState();
        landing();
        within5();
        forces();
        fallen();
        noRange();
        stonesInStore();
        counts();
        manyCalls();
        S.end();
    }

    /** By a HOOK of 60 its RANGE is 122; with WEIGHT 50 the FORCE is 12 and 1. */
    private static WallStones thrower() {
        WallStones x = new WallStones();
        x.set(4, 60);
        return x;
    }

    private static void bring(WallStones x, int how) {
        if (how >= WOUND) {
            x.wound();
        }
        if (how >= SLUNG) {
            x.sling();
        }
        if (how >= CLEAR) {
            x.near(0);
        }
    }

    private static void order() {
        S.say("it is at REST at first");
        S.due("count(0)", new WallStones().count(0), REST);
        S.say("wound: 1; STATE: it is not at REST");
        int[] wound = {1, -2, -2, -2};
        for (int how = REST; how <= CLEAR; how++) {
            WallStones x = new WallStones();
            bring(x, how);
            S.due("wound() of " + how, x.wound(), wound[how]);
            S.due("after it", x.count(0), Math.max(how, WOUND));
        }
        S.say("sling: 2; STATE: it is not WOUND");
        int[] slung = {-2, 2, -2, -2};
        for (int how = REST; how <= CLEAR; how++) {
            WallStones x = new WallStones();
            bring(x, how);
            S.due("sling() of " + how, x.sling(), slung[how]);
            S.due("after it", x.count(0), how == WOUND ? SLUNG : how);
        }
        S.say("then LOOSED, and at REST again: round and round");
        WallStones x = thrower();
        for (int i = 1; i <= 3; i++) {
            S.due("wound()", x.wound(), WOUND);
            S.due("sling()", x.sling(), SLUNG);
            S.due("near(0)", x.near(0), CLEAR);
            S.due("loose()", x.loose(0, 0, 0), 122);
            S.due("at REST", x.count(0), REST);
            S.due("loosed", x.count(5), i);
        }
    }

    private static void menNear() {
        S.say("CLEAR when all men stand off (MEN near are told: 0); with men near not CLEAR any more, but SLUNG");
        int[] withNone = {REST, WOUND, CLEAR, CLEAR};
        int[] withSome = {REST, WOUND, SLUNG, SLUNG};
        for (int how = REST; how <= CLEAR; how++) {
            WallStones x = new WallStones();
            bring(x, how);
            S.due("near(0) of " + how, x.near(0), withNone[how]);
            S.due("after it", x.count(0), withNone[how]);
            for (int men : new int[] {1, 200}) {
                x = new WallStones();
                bring(x, how);
                S.due("near(" + men + ") of " + how, x.near(men), withSome[how]);
                S.due("after it", x.count(0), withSome[how]);
            }
        }
        S.say("men that stood off before it was SLUNG are to be told again");
        WallStones x = new WallStones();
        x.near(0);
        x.wound();
        x.near(0);
        S.due("sling()", x.sling(), SLUNG);
        S.due("not CLEAR", x.loose(0, 0, 0), -2);
        S.due("near(0)", x.near(0), CLEAR);
        S.say("men may come and go as often as they like");
        for (int i = 0; i < 3; i++) {
            S.due("near(1)", x.near(1), SLUNG);
            S.due("near(0)", x.near(0), CLEAR);
        }
    }

    private static void menTold() {
        S.say("MEN near (0 .. 200) are told");
        for (int how = REST; how <= CLEAR; how++) {
            WallStones x = new WallStones();
            bring(x, how);
            for (int bad : new int[] {-1, 201, FAR_BELOW, FAR_ABOVE}) {
                S.due("near(" + bad + ") of " + how, x.near(bad), -1);
                S.due("after it", x.count(0), how);
            }
        }
        S.say("MEN near are not the MEN in store");
        WallStones x = new WallStones();
        x.store(0, 1);
        bring(x, CLEAR);
        S.due("200 of 1", x.near(200), SLUNG);
        S.due("MEN in store", x.store(0, 1), 1);
    }

    private static void setTold() {
        S.say("any number of THE MACHINE, of the STONE, that is told by set(), be it the same, makes it REST");
        for (int what = 0; what < FIRST.length; what++) {
            for (int how = REST; how <= CLEAR; how++) {
                WallStones x = new WallStones();
                bring(x, how);
                S.due("set(" + what + ") of " + how, x.set(what, FIRST[what]), FIRST[what]);
                S.due("after it", x.count(0), REST);
            }
        }
        S.say("another number makes it REST, too");
        for (int what = 0; what < FIRST.length; what++) {
            WallStones x = new WallStones();
            bring(x, CLEAR);
            x.set(what, FIRST[what] + 1);
            S.due("set(" + what + ")", x.count(0), REST);
            S.due("it may be WOUND", x.wound(), WOUND);
        }
        S.say("a number that is refused does not");
        for (int how = REST; how <= CLEAR; how++) {
            WallStones x = new WallStones();
            bring(x, how);
            x.set(0, 4);
            x.set(0, 41);
            x.set(9, 0);
            x.set(-1, 0);
            S.due("as it was", x.count(0), how);
        }
    }

    private static void letsNothingDown() {
        S.say("what is no number told by set() lets nothing down");
        for (int how = REST; how <= CLEAR; how++) {
            WallStones x = new WallStones();
            bring(x, how);
            x.wind(5);
            x.wind(0);
            x.wind(21);
            x.throwing(6);
            x.tune(50, 50, 100, 0);
            x.spread(3);
            x.shot(60, 100);
            x.next();
            x.clear();
            x.wall(3, 3);
            x.hit(0, 0, 1);
            x.level(1);
            x.scatter(0, 0, 2);
            x.store(0, 30);
            x.wet(2, 1);
            x.lasts(1);
            S.due("as it was", x.count(0), how);
        }
    }

    private static void looseRefused() {
        S.say("loose: of no such CELL, distance 0 .. 2000; BAD comes before STATE");
        int[][] bad = {{-1, 0, 0}, {5, 0, 0}, {0, -1, 0}, {0, 3, 0}, {0, 0, -1}, {0, 0, 2001}, {FAR_BELOW, 0, 0}, {FAR_ABOVE, 0, 0},
            {0, FAR_BELOW, 0}, {0, FAR_ABOVE, 0}, {0, 0, FAR_BELOW}, {0, 0, FAR_ABOVE}};
        for (int how = REST; how <= CLEAR; how++) {
            WallStones x = new WallStones();
            bring(x, how);
            for (int[] b : bad) {
                S.due("loose(" + b[0] + ", " + b[1] + ", " + b[2] + ") of " + how, x.loose(b[0], b[1], b[2]), -1);
            }
            S.due("as it was", x.count(0), how);
            S.due("no STONE is gone", x.count(6), 100);
            S.due("none is LOOSED", x.count(5), 0);
        }
        S.say("loose: BAD comes before STATE, with no STONE too");
        WallStones x = new WallStones();
        x.store(1, 0);
        bring(x, CLEAR);
        S.due("loose(0, 0, 2001)", x.loose(0, 0, 2001), -1);
    }

    private static void looseState() {
        S.say("loose: STATE, it is not CLEAR, and nothing changes");
        for (int how = REST; how < CLEAR; how++) {
            WallStones x = thrower();
            bring(x, how);
            S.due("loose of " + how, x.loose(0, 0, 122), -2);
            S.due("as it was", x.count(0), how);
            S.due("no STONE is gone", x.count(6), 100);
            S.due("none is LOOSED", x.count(5), 0);
            S.due("none is hit", x.cell(0, 0, 1), 10);
        }
        S.say("loose: STATE, there is no STONE, and nothing changes");
        WallStones x = thrower();
        x.store(1, 0);
        bring(x, CLEAR);
        S.due("loose", x.loose(0, 0, 122), -2);
        S.due("still CLEAR", x.count(0), CLEAR);
        S.due("none is LOOSED", x.count(5), 0);
        S.due("none in store", x.count(6), 0);
        S.due("none is hit", x.cell(0, 0, 1), 10);
        S.say("loose: STATE, men came near");
        x = thrower();
        bring(x, CLEAR);
        x.near(1);
        S.due("loose", x.loose(0, 0, 122), -2);
        S.due("SLUNG", x.count(0), SLUNG);
        x.near(0);
        S.due("they went", x.loose(0, 0, 122), 122);
    }

    private static void landing() {
        S.say("where it lands: RANGE, whatever distance (0 .. 2000)");
        for (int distance : new int[] {0, 122, 2000}) {
            WallStones x = thrower();
            bring(x, CLEAR);
            S.due("distance " + distance, x.loose(4, 2, distance), 122);
        }
        S.say("where it lands: by WIND and KIND as they are");
        WallStones x = thrower();
        x.wind(-20);
        bring(x, CLEAR);
        S.due("122 less 24.4", x.loose(0, 0, 98), 98);
        S.due("HIT by a FORCE of 9 and 1", x.cell(0, 0, 1), 0);
        S.say("SCATTER is nothing to a STONE that is LOOSED: the CELL is HIT");
        x = thrower();
        x.scatter(0, 0, 0);
        x.scatter(1, 0, 9);
        x.strength(0, 0, 99);
        bring(x, CLEAR);
        x.loose(0, 0, 122);
        S.due("the CELL", x.cell(0, 0, 1), 99 - 13);
        S.due("the one beside it", x.cell(1, 0, 1), 10);
    }

    private static void within5() {
        S.say("the CELL is HIT, if RANGE is within 5 of distance: 5 is within");
        for (int distance : new int[] {117, 122, 127}) {
            S.due("distance " + distance, strengthAfter(distance), 99 - 13);
        }
        S.say("the CELL is HIT, if RANGE is within 5 of distance: 6 is not");
        for (int distance : new int[] {0, 116, 128, 2000}) {
            S.due("distance " + distance, strengthAfter(distance), 99);
        }
    }

    private static int strengthAfter(int distance) {
        WallStones x = thrower();
        x.strength(2, 1, 99);
        bring(x, CLEAR);
        x.loose(2, 1, distance);
        return x.cell(2, 1, 1);
    }

    private static void forces() {
        S.say("a FORCE of WEIGHT times RANGE by 500, and 1: 1 at least");
        // KIND 2 by a HOOK of 42 has a RANGE of 0
        WallStones x = new WallStones();
        x.set(4, 42);
        x.set(8, 2);
        bring(x, CLEAR);
        S.due("lands at 0", x.loose(0, 0, 5), 0);
        S.due("a FORCE of 1", x.cell(0, 0, 1), 9);
        bring(x, CLEAR);
        S.due("lands at 0", x.loose(0, 0, 6), 0);
        S.due("6 off", x.cell(0, 0, 1), 9);
        S.say("a FORCE of WEIGHT times RANGE by 500, and 1: of the WEIGHT at hand");
        x = thrower();
        x.set(7, 1);
        int light = x.throwing(6);
        S.holds("less than 500", light > 0 && light < 500);
        bring(x, CLEAR);
        x.loose(0, 0, light);
        S.due("a FORCE of 1", x.cell(0, 0, 1), 9);
        S.say("a FORCE of WEIGHT times RANGE by 500, rounded down, and 1");
        forceDue(50, 37, 360, 36 + 1);
        forceDue(57, 30, 298, 33 + 1);
        S.say("99 at most");
        x = heavy();
        int range = x.throwing(6);
        S.holds("it would be more", 300 * range / 500 + 1 > 99);
        x.strength(0, 2, 99);
        bring(x, CLEAR);
        x.loose(0, 2, range);
        S.due("99 of 99", x.cell(0, 2, 1), 0);
        S.due("it fell", x.cell(0, 2, 0), 0);
    }

    /** 50 x 360 by 500 is 36 just so; 57 x 298 by 500 is 33.97. */
    private static void forceDue(int weight, int hook, int range, int force) {
        WallStones x = new WallStones();
        int[][] sets = {{2, 9000}, {3, 160}, {4, hook}, {5, 20}, {7, weight}};
        for (int[] s : sets) {
            x.set(s[0], s[1]);
        }
        x.strength(0, 0, 99);
        bring(x, CLEAR);
        S.due("RANGE of WEIGHT " + weight, x.loose(0, 0, range), range);
        S.due("STRENGTH after it", x.cell(0, 0, 1), 99 - force);
    }

    private static WallStones heavy() {
        WallStones x = new WallStones();
        int[][] sets = {{0, 40}, {2, 9000}, {3, 160}, {4, 60}, {5, 60}, {7, 300}};
        for (int[] s : sets) {
            x.set(s[0], s[1]);
        }
        return x;
    }

    private static void fallen() {
        S.say("the CELL is HIT, if that stands: a fallen one is not, and that is no STATE");
        WallStones x = thrower();
        x.hit(0, 0, 10);
        bring(x, CLEAR);
        S.due("where it lands", x.loose(0, 0, 122), 122);
        S.due("STRENGTH as before", x.cell(0, 0, 1), 0);
        S.due("a STONE less", x.count(6), 99);
        S.due("LOOSED", x.count(5), 1);
        bring(x, CLEAR);
        x.loose(0, 2, 122);
        S.due("STRENGTH of what fell by falling", x.cell(0, 2, 1), 10);
        S.say("a HIT by a STONE is a HIT: what is over it FALLS, and the prop goes");
        x = thrower();
        bring(x, CLEAR);
        x.loose(1, 0, 122);
        S.due("13 of 10: three fall", x.count(3), 12);
        x.prop(2, 0);
        x.strength(2, 0, 99);
        bring(x, CLEAR);
        x.loose(2, 0, 122);
        S.due("PROPPED no more", x.cell(2, 0, 2), 0);
        S.due("stands", x.cell(2, 0, 0), 1);
    }

    private static void noRange() {
        S.say("loose: -3, no RANGE, the STONE is lost all the same");
        WallStones x = new WallStones();
        S.due("LOST", x.throwing(6), -9);
        bring(x, CLEAR);
        S.due("loose", x.loose(0, 0, 0), -3);
        S.due("a STONE less", x.count(6), 99);
        S.due("LOOSED", x.count(5), 1);
        S.due("at REST", x.count(0), REST);
        S.due("none is hit", x.cell(0, 0, 1), 10);
        x.set(2, 100);
        S.holds("it stalls", x.throwing(1) > 0);
        bring(x, CLEAR);
        S.due("loose", x.loose(0, 0, 2000), -3);
        S.due("a STONE less", x.count(6), 98);
        S.due("LOOSED", x.count(5), 2);
        S.say("loose: no STONE comes before no RANGE");
        x.store(1, 0);
        bring(x, CLEAR);
        S.due("loose", x.loose(0, 0, 0), -2);
    }

    private static void stonesInStore() {
        S.say("a STONE less in store: to the last");
        WallStones x = thrower();
        x.store(1, 2);
        for (int stones = 1; stones >= 0; stones--) {
            bring(x, CLEAR);
            S.due("loose", x.loose(0, 0, 0), 122);
            S.due("in store", x.count(6), stones);
        }
        bring(x, CLEAR);
        S.due("none is left", x.loose(0, 0, 0), -2);
        S.due("none in store", x.count(6), 0);
        S.due("two LOOSED", x.count(5), 2);
        S.due("STONES are told by store", x.store(1, 1), 0);
        S.due("one more", x.loose(0, 0, 0), 122);
        S.say("of the most STONES, too");
        x.store(1, 9999);
        bring(x, CLEAR);
        x.loose(0, 0, 0);
        S.due("in store", x.count(6), 9998);
    }

    private static void counts() {
        S.say("count: 0 .. 7");
        WallStones x = new WallStones();
        int[] first = {0, 5, 3, 15, 0, 0, 100, 0};
        for (int what = 0; what < first.length; what++) {
            S.due("count(" + what + ")", x.count(what), first[what]);
        }
        for (int bad : new int[] {-1, 8, FAR_BELOW, FAR_ABOVE}) {
            S.due("count(" + bad + ")", x.count(bad), -1);
        }
        S.say("count: shots LOOSED ever are not SHOTS told, nor gone with them");
        x = thrower();
        bring(x, CLEAR);
        x.loose(0, 0, 0);
        S.due("SHOTS told", x.count(4), 0);
        x.shot(60, 122);
        x.shot(60, 122);
        S.due("SHOTS told", x.count(4), 2);
        x.clear();
        x.wall(1, 1);
        S.due("shots LOOSED", x.count(5), 1);
        S.due("SHOTS told", x.count(4), 0);
    }

    private static void manyCalls() {
        S.say("an object is used for at most 512 calls");
        WallStones x = thrower();
        for (int i = 1; i <= 102; i++) {
            x.wound();
            x.sling();
            x.near(0);
            S.due("loose " + i, x.loose(0, 0, 0), i <= 100 ? 122 : -2);
        }
        S.due("100 LOOSED", x.count(5), 100);
    }
}
