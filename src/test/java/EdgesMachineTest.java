/** The sentences of "1 THE MACHINE", promises 2 to 7 and 36, that name a boundary, each at its edge. */
public final class EdgesMachineTest {
    private static final String[] NAME = {"ARM", "BEAM", "BOX", "SLING", "HOOK", "START", "RUB", "WEIGHT", "KIND"};
    private static final int[] LEAST = {5, 20, 100, 10, 0, 10, 0, 1, 0};
    private static final int[] MOST = {40, 160, 9000, 160, 60, 60, 900, 300, 2};
    private static final int[] FIRST = {12, 60, 4000, 50, 30, 40, 100, 50, 0};
    private static final int ARM = 0, BEAM = 1, BOX = 2, SLING = 3, HOOK = 4, START = 5, RUB = 6, WEIGHT = 7, KIND = 8;
    private static final Sentences S = new Sentences();

    public static void main(String[] args) {
        numbers();
        windNumbers();
        sine();
        turns();
        lettingGo();
        stalling();
        heights();
        greatestNumbers();
        roundings();
        farRoundings();
        flights();
        trace();
        rangeAndWind();
        tuned();
        tunedRefused();
        S.end();
    }

    private static WallStones machine(int... whatAndValue) {
        WallStones x = new WallStones();
        for (int i = 0; i + 1 < whatAndValue.length; i += 2) {
            x.set(whatAndValue[i], whatAndValue[i + 1]);
        }
        return x;
    }

    private static void answers(WallStones x, int... want) {
        for (int what = 0; what < want.length; what++) {
            S.due("throwing(" + what + ")", x.throwing(what), want[what]);
        }
    }

    private static void numbers() {
        for (int i = 0; i < NAME.length; i++) {
            S.say("THE MACHINE has " + NAME[i] + " (" + LEAST[i] + " .. " + MOST[i] + "; " + FIRST[i] + " at first)");
            WallStones x = new WallStones();
            S.due("too small", x.set(i, LEAST[i] - 1), -1);
            S.due("too large", x.set(i, MOST[i] + 1), -1);
            S.due("the least, told what it was at first", x.set(i, LEAST[i]), FIRST[i]);
            S.due("too small again", x.set(i, LEAST[i] - 1), -1);
            S.due("the most, told the least", x.set(i, MOST[i]), LEAST[i]);
            S.due("too large again", x.set(i, MOST[i] + 1), -1);
            S.due("by the bits of an int", x.set(i, Integer.MIN_VALUE), -1);
            S.due("by the bits of an int", x.set(i, Integer.MAX_VALUE), -1);
            S.due("told the most", x.set(i, FIRST[i]), MOST[i]);
        }
        S.say("set: there is no such number");
        WallStones x = new WallStones();
        for (int what : new int[] {-1, 9, Integer.MIN_VALUE, Integer.MAX_VALUE}) {
            for (int v : new int[] {0, 1, 20, 50, 100}) {
                S.due("set(" + what + ", " + v + ")", x.set(what, v), -1);
            }
        }
    }

    private static void windNumbers() {
        S.say("WIND (-20 .. 20; 0)");
        WallStones x = new WallStones();
        S.due("too small", x.wind(-21), -100);
        S.due("too large", x.wind(21), -100);
        S.due("far", x.wind(Integer.MIN_VALUE), -100);
        S.due("far", x.wind(Integer.MAX_VALUE), -100);
        S.due("first, and the least", x.wind(-20), 0);
        S.due("the least, and the most", x.wind(20), -20);
        S.due("the most, and -1", x.wind(-1), 20);
        S.due("-1 is a wind that was, no refusal", x.wind(0), -1);
    }

    private static void sine() {
        WallStones x = new WallStones();
        S.say("SINE x (0 .. 180), rounded down");
        S.due("sine(0)", x.sine(0), 0);
        S.due("sine(1): 716000 by 40321", x.sine(1), 17);
        S.due("sine(89): 32396000 by 32401", x.sine(89), 999);
        S.due("sine(90)", x.sine(90), 1000);
        S.due("sine(91)", x.sine(91), 999);
        S.due("sine(179)", x.sine(179), 17);
        S.due("sine(180)", x.sine(180), 0);
        S.due("sine(63): 29484000 by 33129, 889.98", x.sine(63), 889);
        long sum = 0;
        long weighed = 0;
        for (int angle = 0; angle <= 180; angle++) {
            int by = new WallStones().sine(angle);
            sum += by;
            weighed += (angle + 1L) * by;
        }
        S.due("all 181 together", sum, 114468);
        S.due("all 181, each as often as its number and 1", weighed, 10416588);
        S.say("of -x it is that of x below 0");
        S.due("sine(-1): not rounded down once more", x.sine(-1), -17);
        S.due("sine(-90)", x.sine(-90), -1000);
        S.due("sine(-179)", x.sine(-179), -17);
        S.due("sine(-180)", x.sine(-180), 0);
        S.say("sine: x -180 .. 180, else -2000");
        for (int bad : new int[] {181, -181, 360, -360, Integer.MIN_VALUE, Integer.MAX_VALUE}) {
            S.due("sine(" + bad + ")", x.sine(bad), -2000);
        }
        for (int angle = -180; angle <= 180; angle++) {
            int by = new WallStones().sine(angle);
            S.holds("sine(" + angle + ") is no refusal", by >= -1000 && by <= 1000);
        }
    }

    private static void turns() {
        S.say("the beam turns by degrees t = 1, 2, ..: the first that can stall is 1");
        // BOX times ARM is WEIGHT times BEAM: nothing is given, and the RUB takes 100 a turn
        answers(machine(BOX, 250), -9, 1, -9, -9, -9, -9, -9);
        S.say("BOX times ARM less WEIGHT times BEAM may be below 0");
        answers(machine(BOX, 100, ARM, 5, WEIGHT, 300, BEAM, 160, RUB, 0), -9, 1, -9, -9, -9, -9, -9);
        S.say("ANGLE is t - START: below the level it is below 0, and so is its SINE");
        WallStones x = machine(HOOK, 0);
        S.due("GIVEN at 63: 45 x (391 + 641) - 6300", x.throwing(2), 45 * (391 + 641) - 6300);
        S.due("by sine(23) and sine(40)", x.sine(23) + x.sine(40), 391 + 641);
        // 4500 of pull by a DROP of 13 gives 58.5, rounded down
        x = machine(BOX, 625, RUB, 57);
        S.due("DROP at turn 1", x.sine(-39) + x.sine(40), 13);
        S.holds("58 given at turn 1, less 57", x.throwing(1) != 1);
        x.set(RUB, 58);
        S.due("58 given at turn 1, less 58", x.throwing(1), 1);
    }

    /** By the first BEAM and SLING, OPEN at t is 160 t by 100, rounded down. */
    private static void lettingGo() {
        S.say("LETS GO at the first t with OPEN of 100 and HOOK, or more");
        S.due("HOOK 12, 112 at 70 just so", machine(HOOK, 12).throwing(0), 70);
        S.due("HOOK 13, 112 at 70 is one too few, 113 at 71", machine(HOOK, 13).throwing(0), 71);
        S.due("HOOK 0, 99 at 62, 100 at 63", machine(HOOK, 0).throwing(0), 63);
        S.due("HOOK 60, 160 at 100 just so", machine(HOOK, 60).throwing(0), 100);
        S.due("HOOK 59, 158 at 99, so 100 too", machine(HOOK, 59).throwing(0), 100);
        S.say("OPEN is rounded down");
        S.due("HOOK 11, 110.4 at 69 is not 111", machine(HOOK, 11).throwing(0), 70);
        S.due("HOOK 10, 110.4 at 69 is 110", machine(HOOK, 10).throwing(0), 69);
        S.say("t of 1 .. 160: the earliest and the latest that there is");
        S.due("9 a turn: 108 at 12", machine(BEAM, 160, SLING, 10, HOOK, 0, BOX, 9000).throwing(0), 12);
        S.due("9 a turn: 162 at 18", machine(BEAM, 160, SLING, 10, HOOK, 60, BOX, 9000).throwing(0), 18);
        S.due("340 by 320 a turn: 160 at 151", machine(BEAM, 20, SLING, 160, HOOK, 60, BOX, 9000).throwing(0), 151);
    }

    private static void stalling() {
        S.say("STALLS, if GIVEN is 0 or below: 1 is enough to go on");
        answers(machine(BOX, 301, RUB, 8, START, 10, HOOK, 40), 88, -9, 1);
        S.say("STALLS, if GIVEN is 0 or below: 0 is not enough");
        // 948 of pull by a DROP of 1125 at turn 82 gives 1066.5, rounded down, less 13 times 82
        answers(machine(BOX, 329, RUB, 13, START, 10, HOOK, 30), -9, 82, -9, -9, -9, -9, -9);
        S.say("at some t up to that one: at that one it stalls");
        answers(machine(BOX, 317, RUB, 12, START, 10, HOOK, 10), -9, 69, -9, -9, -9, -9, -9);
        answers(machine(BOX, 317, RUB, 12, START, 10, HOOK, 9), -9, 69, -9, -9, -9, -9, -9);
        S.say("at some t up to that one: not after it");
        answers(machine(BOX, 317, RUB, 12, START, 10, HOOK, 8), 68, -9, 4);
        S.say("that t, the first");
        answers(machine(BOX, 317, RUB, 12, START, 10, HOOK, 60), -9, 69, -9, -9, -9, -9, -9);
        answers(machine(BOX, 301, RUB, 8, START, 10, HOOK, 41), -9, 89, -9, -9, -9, -9, -9);
        S.say("a HOOK of 60 by the longest SLING, stalled");
        answers(machine(BEAM, 20, SLING, 160, HOOK, 60, BOX, 100, ARM, 12), -9, 1, -9, -9, -9, -9, -9);
    }

    /** It lets go at 151 by a HOOK of 60: HEIGHT is START less 31. */
    private static WallStones low(int start) {
        return machine(BEAM, 20, SLING, 160, HOOK, 60, BOX, 9000, START, start);
    }

    /** It lets go at 94 by a HOOK of 40: HEIGHT is START and 46. */
    private static WallStones high(int start) {
        return machine(SLING, 60, HOOK, 40, START, start);
    }

    private static void heights() {
        S.say("HEIGHT of 1 .. 89: 1 throws");
        answers(low(32), 151, -9, 134914, 1, 2998, 13, 13);
        S.say("HEIGHT of 1 .. 89, else LOST: 0 is lost");
        answers(low(31), 151, -9, 132346, 0, -9, -9, -9);
        S.say("HEIGHT of 1 .. 89, else LOST: below 0 is lost, and HEIGHT is told");
        answers(low(30), 151, -9, 129885, -1, -9, -9, -9);
        answers(low(22), 151, -9, 107950, -9, -9, -9, -9);
        answers(low(10), 151, -9, 70821, -21, -9, -9, -9);
        S.say("HEIGHT of 1 .. 89: 89 throws");
        WallStones x = high(43);
        S.due("lets go", x.throwing(0), 94);
        S.due("height", x.throwing(3), 89);
        long given = 45000L * (x.sine(51) + x.sine(43)) / 1000 - 9400;
        long speed = 2 * given * 14400 / (4000 * 144 + 50 * 14400);
        S.due("speed", x.throwing(4), speed);
        S.due("reach", x.throwing(5), speed * x.sine(178) / 8000);
        S.holds("it has a range", x.throwing(6) >= 0);
        S.say("HEIGHT of 1 .. 89, else LOST: 90 is lost, and HEIGHT is told");
        x = high(44);
        answers(x, 94, -9, 45000 * (x.sine(50) + x.sine(44)) / 1000 - 9400, 90, -9, -9, -9);
        S.say("what of throwing: 0 .. 6");
        for (int bad : new int[] {-1, 7, Integer.MIN_VALUE, Integer.MAX_VALUE}) {
            S.due("throwing(" + bad + ")", x.throwing(bad), -1);
            S.due("throwing(" + bad + ") where it stalls", machine(BOX, 100).throwing(bad), -1);
        }
    }

    /** By an int's 32 bits these would wrap around. */
    private static void greatestNumbers() {
        S.say("2 GIVEN times the square of BEAM and SLING does not wrap around");
        answers(machine(ARM, 40, BEAM, 160, BOX, 9000, SLING, 160, HOOK, 60, START, 20, RUB, 0, WEIGHT, 300), GREATEST[0]);
        answers(machine(ARM, 40, BEAM, 160, BOX, 9000, SLING, 160, HOOK, 60, START, 20, RUB, 0, WEIGHT, 1), GREATEST[1]);
        answers(machine(ARM, 5, BEAM, 160, BOX, 9000, SLING, 160, HOOK, 60, START, 20, RUB, 0, WEIGHT, 1), GREATEST[2]);
        S.say("the least of all numbers");
        answers(machine(ARM, 5, BEAM, 20, BOX, 100, SLING, 10, HOOK, 0, START, 10, RUB, 0, WEIGHT, 1), GREATEST[3]);
    }

    private static final int[][] GREATEST = {
        {107, -9, 418392, 33, 1899, 216, 211},
        {107, -9, 482545, 33, 6814, 776, 478},
        {107, -9, 60130, 33, 37613, 4287, 0},
        {50, -9, 391, 140, -9, -9, -9},
    };

    private static void roundings() {
        S.say("GIVEN: by 1000, rounded down");
        // 301 times 12 less 3000 is 612; sine 78 + sine 10 is 1152; 612 x 1152 by 1000 is 705.02
        WallStones x = machine(BOX, 301, RUB, 8, START, 10, HOOK, 40);
        S.due("DROP at 88", x.sine(78) + x.sine(10), 1152);
        S.due("GIVEN", x.throwing(2), 705 - 8 * 88);
        S.say("SPEED, rounded down");
        x = low(32);
        // 2 x 134914 x 32400 by 9000 x 144 and 50 x 32400: 2998.08
        S.due("SPEED", x.throwing(4), 2L * 134914 * 32400 / (9000 * 144 + 50 * 32400));
        S.say("REACH: SPEED times SINE of twice HEIGHT by 8000, rounded down");
        S.due("2998 x 35 by 8000 is 13.1", x.throwing(5), 2998 * x.sine(2) / 8000);
    }

    /** Throws by HOOKS 15 .. 60, far. */
    private static WallStones longSling(int hook) {
        return machine(SLING, 160, START, 20, BOX, 9000, HOOK, hook);
    }

    private static void farRoundings() {
        S.say("REACH: by 8000, rounded down, far off");
        // HEIGHT 56: 3378 x 926 by 8000 is 391.004; HEIGHT 64: 3389 x 786 by 8000 is 332.97
        answers(longSling(32), 112, -9, 129710, 56, 3378, 391, 341);
        answers(longSling(28), 108, -9, 130110, 64, 3389, 332, 296);
        S.say("WIND times that by 100, rounded toward 0, far off");
        WallStones x = longSling(33);
        S.due("calm", x.throwing(6), 344);
        x.wind(-19);
        S.due("less 65.36", x.throwing(6), 279);
        x.wind(19);
        S.due("and 65.36", x.throwing(6), 409);
    }

    private static void flights() {
        WallStones x = new WallStones();
        S.say("ROUND r, less r r by (20 WEIGHT and 2000), rounded down");
        S.due("54 x 54 by 3000 is 0", x.flight(0, 54), 54);
        S.due("55 x 55 by 3000 is 1", x.flight(0, 55), 54);
        S.due("3000 x 3000 by 8000", machine(WEIGHT, 300).flight(0, 3000), 3000 - 1125);
        S.due("1000 x 1000 by 2020", machine(WEIGHT, 1).flight(0, 1000), 1000 - 495);
        S.say("ROUND 0 at least");
        S.due("3000 less 3000", x.flight(0, 3000), 0);
        S.due("3001 less 3002", x.flight(0, 3001), 0);
        S.due("2999 less 2998", x.flight(0, 2999), 1);
        S.due("the most, far below 0", machine(WEIGHT, 1).flight(0, 20000), 0);
        S.due("far below 0, and split", x.flight(2, 20000), 0);
        S.say("ROUGH up, less an eighth of it, rounded up");
        int[][] rough = {{0, 0}, {1, 0}, {7, 6}, {8, 7}, {9, 7}, {16, 14}, {17, 14}};
        for (int[] r : rough) {
            S.due("rough of " + r[0], x.flight(1, r[0]), r[1]);
        }
        S.say("SPLIT up, less 2 for each 25 of it, rounded down, and 3 more");
        S.due("ROUGH 24: none for it", x.flight(2, 28), 21);
        S.due("ROUGH 25: 2 for it", x.flight(2, 29), 20);
        S.due("ROUGH 49: 2 for it", x.flight(2, 58), 44);
        S.due("ROUGH 50: 4 for it", x.flight(2, 59), 43);
        S.say("SPLIT 0 at least");
        int[][] split = {{0, 0}, {1, 0}, {3, 0}, {4, 0}, {5, 1}};
        for (int[] r : split) {
            S.due("split of " + r[0], x.flight(2, r[0]), r[1]);
        }
        S.say("flight: a KIND 0 .. 2, a REACH 0 .. 20000");
        int[][] bad = {{-1, 0}, {3, 0}, {0, -1}, {0, 20001}, {Integer.MIN_VALUE, 0}, {Integer.MAX_VALUE, 0},
            {0, Integer.MIN_VALUE}, {2, Integer.MAX_VALUE}};
        for (int[] b : bad) {
            S.due("flight(" + b[0] + ", " + b[1] + ")", x.flight(b[0], b[1]), -1);
        }
        S.due("the least", x.flight(0, 0), 0);
        S.due("the most", x.flight(0, 20000), 0);
    }

    private static void trace() {
        S.say("numbers in brackets come to THE TRACE as often as flight() asks that body");
        WallStones x = machine(SLING, 60, HOOK, 60, START, 20, BOX, 9000, KIND, 2);
        S.due("nothing asked", x.trace(), 0);
        x.flight(0, 0);
        S.due("ROUND", x.trace(), 1);
        x.flight(1, 0);
        S.due("ROUGH, and ROUND over it", x.trace(), 12);
        x.flight(2, 20000);
        S.due("SPLIT, and both over it", x.trace(), 123);
        S.due("telling it adds nothing", x.trace(), 123);
        S.say("a refused flight comes not to THE TRACE");
        x.flight(3, 0);
        x.flight(-1, 0);
        x.flight(2, 20001);
        x.flight(2, -1);
        S.due("as before", x.trace(), 123);
        S.say("no other call's FLIGHTS come to THE TRACE");
        x.throwing(6);
        x.tune(60, 61, 100, 0);
        x.left();
        x.next();
        x.span(60, 0);
        x.surest(100, 0);
        x.wound();
        x.sling();
        x.near(0);
        x.loose(0, 0, 0);
        S.due("as before", x.trace(), 123);
    }

    private static void rangeAndWind() {
        S.say("a RANGE of 0 is a RANGE");
        // by a HOOK of 42 a REACH of 4: ROUGH 3, SPLIT 0
        WallStones x = machine(HOOK, 42, KIND, 2);
        S.due("reach", x.throwing(5), 4);
        S.due("range", x.throwing(6), 0);
        x.wind(-20);
        S.due("against the wind", x.throwing(6), 0);
        x.wind(20);
        S.due("with the wind", x.throwing(6), 0);
        S.say("WIND times that by 100, rounded toward 0");
        x = machine(HOOK, 42);
        x.wind(-20);
        S.due("4 less 0.8", x.throwing(6), 4);
        x.wind(20);
        S.due("4 and 0.8", x.throwing(6), 4);
        x = low(32);
        x.wind(-20);
        S.due("13 less 2.6", x.throwing(6), 11);
        x.wind(20);
        S.due("13 and 2.6", x.throwing(6), 15);
        x.wind(0);
        S.due("13", x.throwing(6), 13);
        S.say("RANGE is NONE where it STALLS or is LOST, whatever WIND");
        for (int wind = -20; wind <= 20; wind += 20) {
            x = machine(BOX, 100);
            x.wind(wind);
            S.due("stalls", x.throwing(6), -9);
            x = low(31);
            x.wind(wind);
            S.due("lost", x.throwing(6), -9);
        }
    }

    private static WallStones far() {
        return machine(SLING, 60, START, 20, BOX, 9000);
    }

    private static int rangeBy(int sling, int hook) {
        WallStones x = far();
        x.set(SLING, sling);
        x.set(HOOK, hook);
        return x.throwing(6);
    }

    private static void tunedTo(int from, int to, int distance, int sling, int hook, int range) {
        WallStones x = far();
        S.due("RANGE by SLING " + sling + ", HOOK " + hook, rangeBy(sling, hook), range);
        S.due("SLING for " + distance, x.tune(from, to, distance, 0), sling);
        S.due("HOOK for " + distance, x.tune(from, to, distance, 1), hook);
        S.due("RANGE for " + distance, x.tune(from, to, distance, 2), range);
    }

    private static void tuned() {
        S.say("TUNED: of several the least SLING, before the least HOOK");
        S.due("3 beyond by a less SLING", rangeBy(60, 31), 67);
        S.due("3 short by a less HOOK", rangeBy(61, 30), 61);
        tunedTo(60, 62, 64, 60, 31, 67);
        S.due("3 beyond", rangeBy(61, 32), 82);
        S.due("3 short", rangeBy(62, 31), 76);
        tunedTo(60, 62, 79, 61, 32, 82);
        S.say("TUNED: of several the least SLING, of the same RANGE");
        S.due("the same by another SLING", rangeBy(62, 42), 181);
        tunedTo(60, 62, 182, 60, 43, 181);
        S.say("TUNED: of several by one SLING the least HOOK");
        S.due("4 beyond by the next HOOK", rangeBy(70, 27), 51);
        tunedTo(70, 70, 47, 70, 26, 43);
        S.due("the same by the next HOOK", rangeBy(60, 53), 214);
        tunedTo(60, 60, 2000, 60, 52, 214);
        S.say("TUNED of HOOKS 0 .. 60: the last is one of them");
        tunedTo(71, 71, 194, 71, 60, 194);
        S.say("TUNED of SLINGS from .. to: both are of them, none beside");
        S.due("by 61", rangeBy(61, 32), 82);
        tunedTo(61, 61, 82, 61, 32, 82);
        tunedTo(60, 61, 82, 61, 32, 82);
        tunedTo(61, 62, 82, 61, 32, 82);
        S.holds("not by 60", far().tune(60, 60, 82, 2) != 82);
        S.holds("not by 62", far().tune(62, 62, 82, 2) != 82);
        S.say("TUNED by RANGE as it is: of the KIND at hand, and with WIND");
        WallStones windy = far();
        windy.wind(20);
        S.due("214 and 42.8", windy.tune(60, 60, 2000, 2), 256);
        windy.wind(-20);
        S.due("214 less 42.8", windy.tune(60, 60, 2000, 2), 172);
        windy.wind(0);
        windy.set(KIND, 1);
        S.due("214 less 27", windy.tune(60, 60, 2000, 2), 187);
        windy.set(KIND, 2);
        S.due("187 less 14 and 3", windy.tune(60, 60, 2000, 2), 170);
        S.say("TUNED leaves THE MACHINE as it is");
        WallStones x = far();
        x.tune(100, 160, 300, 0);
        S.due("SLING", x.set(SLING, 60), 60);
        S.due("HOOK", x.set(HOOK, 30), 30);
    }

    private static void tunedRefused() {
        S.say("TUNED is NONE, if none has a RANGE");
        WallStones x = machine(BOX, 100);
        for (int what = 0; what <= 2; what++) {
            S.due("tune(10, 160, 0, " + what + ")", x.tune(10, 160, 0, what), -9);
        }
        S.say("tune: SLINGS 10 .. 160, from above to, distance 0 .. 2000, what 0 .. 2");
        x = far();
        int[][] bad = {{9, 160, 0, 0}, {10, 161, 0, 0}, {161, 161, 0, 0}, {9, 9, 0, 0}, {11, 10, 0, 0}, {160, 10, 0, 0},
            {10, 10, -1, 0}, {10, 10, 2001, 0}, {10, 10, 0, -1}, {10, 10, 0, 3}, {Integer.MIN_VALUE, Integer.MAX_VALUE, 0, 0},
            {10, 160, Integer.MIN_VALUE, 0}, {10, 160, Integer.MAX_VALUE, 0}, {10, 160, 0, Integer.MIN_VALUE}};
        for (int[] b : bad) {
            S.due("tune(" + b[0] + ", " + b[1] + ", " + b[2] + ", " + b[3] + ")", x.tune(b[0], b[1], b[2], b[3]), -1);
        }
        S.due("refused before NONE", machine(BOX, 100).tune(10, 160, 2001, 0), -1);
        S.due("the least SLING alone: none by it", x.tune(10, 10, 0, 0) == -1 ? 1 : 0, 0);
        S.due("the most SLING alone, the farthest", x.tune(160, 160, 2000, 0), 160);
        S.holds("distance 0", x.tune(160, 160, 0, 2) >= 0);
    }
}
