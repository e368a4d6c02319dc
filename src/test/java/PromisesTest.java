/**
 * Each promise by its number: ordinary inputs, the edges that the document names, wrong inputs. The answers due were
 * reckoned by hand from the document's words.
 */
public final class PromisesTest {
    private static final int[] FAR = {Integer.MIN_VALUE, Integer.MAX_VALUE};
    private static int wrong = 0;
    private static int asked = 0;

    private static void due(String call, long got, long want) {
        asked++;
        if (got != want) {
            wrong++;
            System.out.println(call + " answered " + got + ", due is " + want);
        }
    }

    public static void main(String[] args) {
        promise1();
        promises2and3();
        promise4();
        promise5();
        promise6and36();
        promise7();
        promises8to11();
        promises12to14();
        promises15to17();
        promises18and19();
        promises20to22();
        promises23to25();
        promise26();
        promises27to29();
        promise30();
        promises31and32();
        promises33and34();
        promise35();
        System.out.println(wrong == 0 ? asked + " answers are as due" : wrong + " answers are not as due");
        if (wrong != 0) {
            System.exit(1);
        }
    }

    /** What a new object holds, read back by what each setting call tells that it was. */
    private static void promise1() {
        WallStones x = new WallStones();
        int[] first = {12, 60, 4000, 50, 30, 40, 100, 50, 0};
        for (int i = 0; i < first.length; i++) {
            due("1 set(" + i + ")", x.set(i, first[i]), first[i]);
        }
        due("1 wind", x.wind(0), 0);
        due("1 spread", x.spread(5), 5);
        due("1 level", x.level(0), 0);
        int[] counts = {0, 5, 3, 15, 0, 0, 100, 0};
        for (int i = 0; i < counts.length; i++) {
            due("1 count(" + i + ")", x.count(i), counts[i]);
        }
        for (int cx = 0; cx < 5; cx++) {
            for (int cy = 0; cy < 3; cy++) {
                due("1 cell stands", x.cell(cx, cy, 0), 1);
                due("1 cell strength", x.cell(cx, cy, 1), 10);
                due("1 cell propped", x.cell(cx, cy, 2), 0);
            }
        }
        for (int across = -1; across <= 1; across++) {
            for (int up = -1; up <= 1; up++) {
                int want = across == 0 && up == 0 ? 1 : 0;
                due("1 scatter(" + across + "," + up + ")", x.scatter(across, up, want), want);
            }
        }
        int[] stores = {20, 100, 10, 1000, 40};
        for (int i = 0; i < stores.length; i++) {
            due("1 store(" + i + ")", x.store(i, stores[i]), stores[i]);
        }
        due("1 trace", x.trace(), 0);
        due("1 objects apart", new WallStones().hit(0, 0, 10) + x.count(3), 18);
    }

    private static void promises2and3() {
        int[] least = {5, 20, 100, 10, 0, 10, 0, 1, 0};
        int[] most = {40, 160, 9000, 160, 60, 60, 900, 300, 2};
        WallStones x = new WallStones();
        for (int i = 0; i < least.length; i++) {
            x.set(i, least[i]);
            due("2 least-1 of " + i, x.set(i, least[i] - 1), -1);
            due("2 most+1 of " + i, x.set(i, most[i] + 1), -1);
            due("2 far below of " + i, x.set(i, FAR[0]), -1);
            due("2 far above of " + i, x.set(i, FAR[1]), -1);
            due("2 unchanged by the refused, " + i, x.set(i, most[i]), least[i]);
            due("2 most of " + i, x.set(i, least[i]), most[i]);
        }
        for (int what : new int[] {-1, 9, FAR[0], FAR[1]}) {
            due("2 what " + what, x.set(what, 20), -1);
        }
        due("3 least", x.wind(-20), 0);
        due("3 below", x.wind(-21), -100);
        due("3 above", x.wind(21), -100);
        due("3 far", x.wind(FAR[0]), -100);
        due("3 most", x.wind(20), -20);
        due("3 back", x.wind(0), 20);
    }

    private static void promise4() {
        WallStones x = new WallStones();
        int[][] sines = {{0, 0}, {1, 17}, {10, 175}, {30, 500}, {45, 705}, {60, 864}, {89, 999}, {90, 1000}, {91, 999},
            {150, 500}, {179, 17}, {180, 0}};
        for (int[] s : sines) {
            due("4 sine(" + s[0] + ")", x.sine(s[0]), s[1]);
            due("4 sine(-" + s[0] + ")", x.sine(-s[0]), -s[1]);
        }
        for (int bad : new int[] {181, -181, FAR[0], FAR[1]}) {
            due("4 sine(" + bad + ")", x.sine(bad), -2000);
        }
    }

    /** The machine that the runs below use: it lets go at 94 (94 x 180 / 120 = 141) and throws at 86. */
    private static WallStones thrower() {
        WallStones x = new WallStones();
        x.set(3, 60);
        x.set(4, 40);
        x.set(5, 40);
        return x;
    }

    private static void promise5() {
        WallStones x = thrower();
        // GIVEN: 45000 x (sine 54 + sine 40) / 1000 - 9400 = 45000 x 1450 / 1000 - 9400
        long drop = x.sine(54) + x.sine(40);
        long given = 45000 * drop / 1000 - 9400;
        due("5 lets go", x.throwing(0), 94);
        due("5 stalls", x.throwing(1), -9);
        due("5 given", x.throwing(2), given);
        due("5 height", x.throwing(3), 86);
        long speed = 2 * given * 14400 / (4000 * 144 + 50 * 14400);
        due("5 speed", x.throwing(4), speed);
        due("5 reach", x.throwing(5), speed * x.sine(172) / 8000);
        long reach = speed * x.sine(172) / 8000;
        due("5 range", x.throwing(6), reach - reach * reach / 3000);
        due("5 what -1", x.throwing(-1), -1);
        due("5 what 7", x.throwing(7), -1);
        due("5 far", x.throwing(FAR[0]), -1);
        // one degree of HEIGHT above 89 is lost, and tells its HEIGHT all the same
        x.set(5, 44);
        due("5 lost height", x.throwing(3), 90);
        due("5 lost lets go", x.throwing(0), 94);
        due("5 lost speed", x.throwing(4), -9);
        due("5 lost reach", x.throwing(5), -9);
        due("5 lost range", x.throwing(6), -9);
        x.set(5, 43);
        due("5 height 89", x.throwing(3), 89);
        due("5 height 89 has a range", x.throwing(6) >= 0 ? 1 : 0, 1);
        stalls();
        windAndKind();
    }

    private static void stalls() {
        WallStones x = new WallStones();
        x.set(2, 250);
        // 250 x 12 - 50 x 60 = 0 given at every turn, less the rub
        due("5 stalls at once", x.throwing(1), 1);
        for (int what = 0; what <= 6; what++) {
            if (what != 1) {
                due("5 stalled what " + what, x.throwing(what), -9);
            }
        }
        x.set(6, 0);
        due("5 GIVEN of 0 stalls", x.throwing(1), 1);
        // 100 of pull by a DROP of 10 at turn 1 is a GIVEN of 1: that is enough
        x.set(5, 55);
        due("5 DROP at turn 1", x.sine(-54) + x.sine(55), 10);
        x.set(2, 620);
        x.set(0, 5);
        due("5 GIVEN of 1 goes on", x.throwing(1), -9);
        due("5 and lets go", x.throwing(0), 82);
        // 333 x 12 - 3000 = 996 of pull from a start of 10, against a rub of 12 a turn, ends between turn 82 and turn 100
        x = new WallStones();
        x.set(2, 333);
        x.set(5, 10);
        x.set(6, 12);
        int first = firstStall(x, 996, 10, 12);
        due("5 it would stall after the release", first > 82 && first <= 100 ? 1 : 0, 1);
        due("5 it lets go before", x.throwing(0), 82);
        due("5 and stalls never", x.throwing(1), -9);
        x.set(4, 60);
        due("5 stalls before a later release", x.throwing(1), first);
        due("5 so does not let go", x.throwing(0), -9);
    }

    private static int firstStall(WallStones x, int pull, int start, int rub) {
        for (int t = 1; t <= 160; t++) {
            if (Math.floorDiv(pull * (x.sine(t - start) + x.sine(start)), 1000) - rub * t <= 0) {
                return t;
            }
        }
        return 161;
    }

    private static void windAndKind() {
        WallStones x = thrower();
        x.set(5, 20);
        int calm = x.throwing(6);
        x.wind(-7);
        due("5 against the wind", x.throwing(6), calm - 7 * calm / 100);
        x.wind(7);
        due("5 with the wind", x.throwing(6), calm + 7 * calm / 100);
        x.wind(0);
        int reach = x.throwing(5);
        for (int kind = 0; kind <= 2; kind++) {
            x.set(8, kind);
            due("5 range is the flight of the kind at hand", x.throwing(6), x.flight(kind, reach));
        }
        due("5 throwing comes not to the trace", x.trace(), 1 + 11 + 111);
    }

    private static void promise6and36() {
        WallStones x = new WallStones();
        due("6 round 0", x.flight(0, 0), 0);
        due("6 round 1000", x.flight(0, 1000), 667);
        due("6 round 2999", x.flight(0, 2999), 2999 - 2998);
        due("6 round 3000", x.flight(0, 3000), 0);
        due("6 round 20000", x.flight(0, 20000), 0);
        due("36 five round", x.trace(), 5);
        due("6 rough 1000: 667 less 84", x.flight(1, 1000), 583);
        due("6 rough of 8: 8 less 1", x.flight(1, 8), 7);
        due("6 rough of 9: 9 less 2", x.flight(1, 9), 7);
        due("6 rough of 1: 1 less 1", x.flight(1, 1), 0);
        due("36 and four rough", x.trace(), 49);
        due("6 split 1000: 583 less 46 less 3", x.flight(2, 1000), 534);
        due("6 split of 4: 3 less 3", x.flight(2, 4), 0);
        due("6 split of 5: 4 less 3", x.flight(2, 5), 1);
        due("6 split of 0", x.flight(2, 0), 0);
        due("36 and four split", x.trace(), 49 + 444);
        for (int[] bad : new int[][] {{-1, 5}, {3, 5}, {0, -1}, {0, 20001}, {FAR[0], 0}, {0, FAR[0]}, {2, FAR[1]}}) {
            due("6 flight(" + bad[0] + "," + bad[1] + ")", x.flight(bad[0], bad[1]), -1);
        }
        due("36 the refused add nothing", x.trace(), 493);
        x.set(7, 1);
        due("6 light: 1000 less 1000000 by 2020", x.flight(0, 1000), 505);
        x.set(7, 300);
        due("6 heavy: 1000 less 1000000 by 8000", x.flight(0, 1000), 875);
        x.wind(20);
        due("6 flight knows no wind", x.flight(0, 1000), 875);
    }

    private static void promise7() {
        WallStones x = thrower();
        int range = rangeBy(x, 70, 55);
        due("7 the machine stays", x.throwing(0), 94);
        due("7 range is told", x.tune(70, 70, range, 2), range);
        due("7 one sling", x.tune(70, 70, range, 0), 70);
        int best = -9;
        int bestHook = -9;
        for (int hook = 0; hook <= 60; hook++) {
            int by = rangeBy(x, 70, hook);
            if (by != -9 && (best == -9 || Math.abs(by - 100) < Math.abs(best - 100))) {
                best = by;
                bestHook = hook;
            }
        }
        due("7 the least hook of the nearest", x.tune(70, 70, 100, 1), bestHook);
        due("7 the nearest", x.tune(70, 70, 100, 2), best);
        int[][] bad = {{9, 20, 0, 0}, {10, 161, 0, 0}, {161, 161, 0, 0}, {30, 29, 0, 0}, {10, 10, -1, 0},
            {10, 10, 2001, 0}, {10, 10, 0, -1}, {10, 10, 0, 3}, {FAR[0], FAR[1], 0, 0}, {10, 10, FAR[1], 0}};
        for (int[] b : bad) {
            due("7 bad", x.tune(b[0], b[1], b[2], b[3]), -1);
        }
        due("7 edges", x.tune(10, 160, 2000, 2) >= 0 ? 1 : 0, 1);
        x.set(2, 100);
        for (int what = 0; what <= 2; what++) {
            due("7 none has a range", x.tune(10, 160, 0, what), -9);
        }
    }

    /** RANGE by a sling and a hook, told by throwing(); the machine is put back. */
    private static int rangeBy(WallStones x, int sling, int hook) {
        int slingWas = x.set(3, sling);
        int hookWas = x.set(4, hook);
        int range = x.throwing(6);
        x.set(3, slingWas);
        x.set(4, hookWas);
        return range;
    }

    private static void promises8to11() {
        WallStones x = thrower();
        due("8 below", x.spread(-1), -1);
        due("8 above", x.spread(51), -1);
        due("8 far", x.spread(FAR[1]), -1);
        due("8 most", x.spread(50), 5);
        due("8 least", x.spread(0), 50);
        due("11 all pairs", x.left(), 31 * 25);
        int range = x.throwing(6);
        due("9 first", x.shot(40, range), 1);
        int pairs = 0;
        for (int scale = 85; scale <= 115; scale++) {
            pairs += Math.abs(range - range * scale / 100) <= 12 ? 1 : 0;
        }
        due("11 within 0: one drift of each scale near enough", x.left(), pairs);
        due("9 hook below", x.shot(-1, 0), -1);
        due("9 hook above", x.shot(61, 0), -1);
        due("9 fell below", x.shot(0, -1), -1);
        due("9 fell above", x.shot(0, 2001), -1);
        due("9 the refused are not told", x.count(4), 1);
        x.spread(1);
        int wider = 0;
        for (int scale = 85; scale <= 115; scale++) {
            for (int drift = -12; drift <= 12; drift++) {
                wider += Math.abs(range * scale / 100 + drift - range) <= 1 ? 1 : 0;
            }
        }
        due("11 within 1", x.left(), wider);
        for (int i = 2; i <= 16; i++) {
            due("9 shot " + i, x.shot(60, i == 2 ? 2000 : 0), i);
        }
        due("9 full", x.shot(60, 0), -3);
        due("9 bad comes before full", x.shot(61, 0), -1);
        due("11 none bears them all", x.left(), 0);
        due("10 all", x.clear(), 16);
        due("10 none", x.clear(), 0);
        due("9 from anew", x.shot(0, 0), 1);
        due("11 a hook without a range bears no shot", x.left(), rangeBy(x, 60, 0) == -9 ? 0 : -1);
    }

    private static void promises12to14() {
        WallStones x = thrower();
        int range = x.throwing(6);
        due("12 least", x.span(40, 0), Math.floorDiv(range * 85, 100) - 12);
        due("12 greatest", x.span(40, 1), range * 115 / 100 + 12);
        x.shot(40, range);
        x.spread(0);
        due("12 borne least", x.span(40, 0), range);
        due("12 borne greatest", x.span(40, 1), range);
        due("12 no range", x.span(0, 0), -1000);
        for (int[] bad : new int[][] {{-1, 0}, {61, 0}, {0, -1}, {0, 2}, {FAR[0], FAR[1]}}) {
            due("12 bad", x.span(bad[0], bad[1]), -2000);
        }
        due("13 the widest is another hook", x.next() != 40 && x.next() >= 0 ? 1 : 0, 1);
        due("14 the one that is told is surest", x.surest(range, 0), 40);
        due("14 and misses nothing", x.surest(range, 1), 0);
        due("14 by so much", x.surest(2000, 1) > 0 ? 1 : 0, 1);
        for (int[] bad : new int[][] {{-1, 0}, {2001, 0}, {0, -1}, {0, 2}, {FAR[0], 0}, {FAR[1], 0}}) {
            due("14 bad", x.surest(bad[0], bad[1]), -1);
        }
        x.shot(40, 2000);
        due("12 none left", x.span(40, 1), -1000);
        due("13 none left", x.next(), -9);
        due("14 none left", x.surest(0, 0), -9);
        due("14 none left, no miss", x.surest(0, 1), -9);
        x.clear();
        x.set(2, 100);
        due("13 no hook has a range", x.next(), -9);
        due("14 no hook has a range", x.surest(0, 0), -9);
        due("12 no hook has a range", x.span(60, 0), -1000);
    }

    private static void promises15to17() {
        WallStones x = new WallStones();
        x.hit(0, 0, 10);
        x.prop(1, 1);
        x.strength(1, 1, 3);
        for (int[] bad : new int[][] {{0, 1}, {9, 1}, {1, 0}, {1, 7}, {FAR[0], 1}, {1, FAR[1]}}) {
            due("15 bad", x.wall(bad[0], bad[1]), -1);
        }
        due("15 the refused leaves it", x.count(3), 12);
        due("15 most", x.wall(8, 6), 48);
        due("15 all stand", x.count(3), 48);
        due("15 not propped", x.cell(1, 1, 2), 0);
        due("15 strength 10", x.cell(1, 1, 1), 10);
        due("15 least", x.wall(1, 1), 1);
        due("15 no second column", x.cell(1, 0, 0), -1);
        x.wall(3, 2);
        due("16 was 10", x.strength(2, 1, 99), 10);
        due("16 was 99", x.strength(2, 1, 1), 99);
        due("16 v 0", x.strength(2, 1, 0), -1);
        due("16 v 100", x.strength(2, 1, 100), -1);
        for (int[] bad : new int[][] {{3, 0}, {0, 2}, {-1, 0}, {0, -1}, {FAR[0], 0}, {0, FAR[1]}}) {
            due("16 no such cell", x.strength(bad[0], bad[1], 5), -1);
            due("17 no such cell", x.prop(bad[0], bad[1]), -1);
        }
        due("17 was not", x.prop(2, 1), 0);
        due("17 was", x.prop(2, 1), 1);
        due("19 propped", x.cell(2, 1, 2), 1);
        due("17 only that one", x.cell(1, 1, 2), 0);
        x.hit(0, 1, 99);
        due("16 fallen", x.strength(0, 1, 5), -2);
        due("16 bad before state", x.strength(0, 1, 0), -1);
        due("17 fallen", x.prop(0, 1), -2);
    }

    private static void promises18and19() {
        WallStones x = new WallStones();
        x.wall(2, 6);
        for (int[] bad : new int[][] {{2, 0, 1}, {0, 6, 1}, {-1, 0, 1}, {0, -1, 1}, {0, 0, 0}, {0, 0, 100}, {0, 0, FAR[0]}}) {
            due("18 bad", x.hit(bad[0], bad[1], bad[2]), -1);
        }
        due("19 the refused leaves it", x.cell(0, 0, 1), 10);
        x.prop(0, 3);
        due("18 not enough", x.hit(0, 1, 9), 0);
        due("19 one left", x.cell(0, 1, 1), 1);
        due("18 it and the one above, to the prop", x.hit(0, 1, 1), 2);
        due("19 below stands", x.cell(0, 0, 0), 1);
        due("19 above the prop stands", x.cell(0, 4, 0), 1);
        due("18 a hit takes the prop and what it holds", x.hit(0, 3, 1), 3);
        due("19 it had strength left", x.cell(0, 3, 1), 9);
        due("19 it is propped no more", x.cell(0, 3, 2), 0);
        due("19 it stands no more", x.cell(0, 3, 0), 0);
        due("18 fallen", x.hit(0, 3, 1), -2);
        due("18 bad before state", x.hit(0, 3, 0), -1);
        x.prop(1, 2);
        due("18 propped over a standing one: only the prop goes", x.hit(1, 2, 1), 0);
        due("19 prop gone", x.cell(1, 2, 2), 0);
        due("18 more than it bears", x.hit(1, 0, 99), 6);
        due("19 strength is 99 less", x.cell(1, 0, 1), -89);
        due("19 what fell by falling keeps its strength", x.cell(1, 5, 1), 10);
        for (int[] bad : new int[][] {{2, 0, 0}, {0, 6, 0}, {-1, 0, 0}, {0, 0, -1}, {0, 0, 3}, {FAR[1], FAR[1], FAR[1]}}) {
            due("19 bad", x.cell(bad[0], bad[1], bad[2]), -1);
        }
    }

    private static void promises20to22() {
        WallStones x = new WallStones();
        due("20 below", x.level(-1), -1);
        due("20 above", x.level(3), -1);
        due("20 most", x.level(2), 0);
        due("21 three stand", x.open(), -9);
        x.hit(3, 2, 10);
        due("21 two stand", x.open(), 3);
        x.hit(1, 0, 10);
        due("21 the first", x.open(), 1);
        due("20 back", x.level(1), 2);
        due("21 two are too many", x.open(), 1);
        due("20 none", x.level(0), 1);
        due("21 none stands", x.open(), 1);
        due("22 open already", x.soonest(1, 0), 1);
        due("22 no hits", x.soonest(1, 1), 0);
        for (int[] bad : new int[][] {{0, 0}, {100, 0}, {1, -1}, {1, 2}, {FAR[0], 0}}) {
            due("22 bad", x.soonest(bad[0], bad[1]), -1);
        }
        x.wall(3, 1);
        due("22 the least of equals", x.soonest(10, 0), 0);
        x.wall(2, 4);
        x.prop(0, 2);
        due("22 a column without a prop", x.soonest(10, 0), 1);
        due("22 one hit", x.soonest(10, 1), 1);
        due("22 ten hits of 1", x.soonest(1, 1), 10);
        x.strength(1, 0, 99);
        due("22 ten and one for the prop", x.soonest(1, 1), 11);
        due("22 in the first", x.soonest(1, 0), 0);
        x.level(1);
        x.strength(1, 1, 4);
        due("22 four by leaving one", x.soonest(1, 1), 4);
        due("22 there", x.soonest(1, 0), 1);
        due("22 rounded up", x.soonest(3, 1), 2);
    }

    private static void promises23to25() {
        WallStones x = new WallStones();
        for (int[] bad : new int[][] {{-2, 0, 1}, {2, 0, 1}, {0, -2, 1}, {0, 2, 1}, {0, 0, -1}, {0, 0, 10}, {FAR[0], FAR[1], 1}}) {
            due("23 bad", x.scatter(bad[0], bad[1], bad[2]), -1);
        }
        due("23 middle", x.scatter(0, 0, 0), 1);
        due("23 most", x.scatter(-1, 1, 9), 0);
        due("23 back", x.scatter(-1, 1, 9), 9);
        due("24 one column less, one row more", x.worth(1, 0, 10), 18);
        due("24 outside", x.worth(0, 0, 10), 0);
        due("24 above the top", x.worth(1, 2, 10), 0);
        due("24 too weak", x.worth(1, 0, 9), 0);
        due("24 the wall stays", x.cell(0, 1, 1), 10);
        due("25 the least of equals", x.aim(10, 0), 1);
        due("25 its worth", x.aim(10, 1), 18);
        x.hit(0, 0, 10);
        due("25 a fallen cell gives nothing", x.aim(10, 0), 2);
        due("24 on a fallen one", x.worth(0, 0, 10), 0);
        x.scatter(0, 0, 1);
        due("24 sum", x.worth(2, 0, 10), 9 * 2 + 3);
        due("25 sum", x.aim(10, 1), 21);
        x.wall(3, 2);
        x.scatter(-1, 1, 0);
        x.strength(2, 0, 11);
        x.strength(1, 0, 11);
        x.strength(0, 0, 11);
        x.strength(2, 1, 11);
        x.strength(0, 1, 11);
        due("25 number is column and W times row", x.aim(10, 0), 1 + 3);
        for (int[] bad : new int[][] {{3, 0, 1}, {0, 2, 1}, {-1, 0, 1}, {0, -1, 1}, {0, 0, 0}, {0, 0, 100}}) {
            due("24 bad", x.worth(bad[0], bad[1], bad[2]), -1);
        }
        for (int[] bad : new int[][] {{0, 0}, {100, 0}, {1, -1}, {1, 2}, {FAR[0], 0}, {1, FAR[1]}}) {
            due("25 bad", x.aim(bad[0], bad[1]), -1);
        }
    }

    private static void promise26() {
        WallStones x = new WallStones();
        x.scatter(0, 0, 2);
        x.scatter(1, 0, 3);
        // of two shots at cell 0,0 by 5: both must strike one column to open it
        due("26 one shot holds", x.held(0, 0, 5, 1), 5);
        due("26 two: 25 less 4 less 9", x.held(0, 0, 5, 2), 12);
        due("26 three: none holds", x.held(0, 0, 5, 3), 0);
        due("26 at the edge the right falls outside", x.held(4, 0, 5, 3), 27 + 3 * 9 * 2);
        due("26 four of 1", x.held(0, 0, 1, 4), 625);
        due("26 the wall stays", x.cell(0, 0, 1), 10);
        x.level(2);
        due("26 by level 2", x.held(0, 2, 10, 1), 0);
        x.level(0);
        x.hit(3, 0, 10);
        due("26 open already", x.held(0, 0, 1, 1), 0);
        for (int[] bad : new int[][] {{5, 0, 1, 1}, {0, 3, 1, 1}, {-1, 0, 1, 1}, {0, -1, 1, 1}, {0, 0, 0, 1}, {0, 0, 100, 1},
            {0, 0, 1, 0}, {0, 0, 1, 5}, {FAR[0], FAR[1], FAR[0], FAR[1]}}) {
            due("26 bad", x.held(bad[0], bad[1], bad[2], bad[3]), -1);
        }
        x.wall(8, 6);
        for (int across = -1; across <= 1; across++) {
            for (int up = -1; up <= 1; up++) {
                x.scatter(across, up, 9);
            }
        }
        due("26 the most there can be", x.held(4, 3, 1, 4), 81L * 81 * 81 * 81);
    }

    private static void promises27to29() {
        WallStones x = new WallStones();
        due("28 at rest", x.sling(), -2);
        due("29 at rest", x.near(0), 0);
        due("27", x.wound(), 1);
        due("27 again", x.wound(), -2);
        due("29 wound", x.near(5), 1);
        due("29 wound, none near", x.near(0), 1);
        due("28", x.sling(), 2);
        due("28 again", x.sling(), -2);
        due("27 slung", x.wound(), -2);
        due("29 men near", x.near(200), 2);
        due("29 none near", x.near(0), 3);
        due("29 still none", x.near(0), 3);
        due("27 clear", x.wound(), -2);
        due("28 clear", x.sling(), -2);
        due("29 below", x.near(-1), -1);
        due("29 above", x.near(201), -1);
        due("29 the refused leaves it", x.count(0), 3);
        due("29 one comes back", x.near(1), 2);
        due("29 and goes", x.near(0), 3);
        x.wind(3);
        due("4 the wind lets nothing down", x.count(0), 3);
        x.set(0, 4);
        due("4 what is refused lets nothing down", x.count(0), 3);
        x.store(0, 5);
        x.wall(2, 2);
        due("4 nor do store and wall", x.count(0), 3);
        for (int what = 0; what <= 8; what++) {
            WallStones y = new WallStones();
            makeClear(y);
            y.set(what, new int[] {12, 60, 4000, 50, 30, 40, 100, 50, 0}[what]);
            due("4 set(" + what + ") of the same lets down", y.count(0), 0);
        }
    }

    private static void makeClear(WallStones x) {
        x.wound();
        x.sling();
        x.near(0);
    }

    private static void promise30() {
        WallStones x = thrower();
        int range = x.throwing(6);
        due("30 a range is there", range > 5 ? 1 : 0, 1);
        due("30 at rest", x.loose(0, 0, range), -2);
        due("30 bad before state", x.loose(5, 0, range), -1);
        makeClear(x);
        for (int[] bad : new int[][] {{5, 0, 1}, {0, 3, 1}, {-1, 0, 1}, {0, -1, 1}, {0, 0, -1}, {0, 0, 2001}, {FAR[0], 0, 0}}) {
            due("30 bad", x.loose(bad[0], bad[1], bad[2]), -1);
        }
        due("30 the refused leaves it", x.count(0) * 1000 + x.count(6), 3100);
        int force = Math.min(99, 50 * range / 500 + 1);
        due("30 where it lands", x.loose(0, 1, range + 5), range);
        due("30 hit with the force", x.cell(0, 1, 1), 10 - force);
        due("30 at rest again", x.count(0), 0);
        due("30 loosed", x.count(5), 1);
        due("30 a stone less", x.count(6), 99);
        makeClear(x);
        due("30 6 off", x.loose(1, 1, range + 6), range);
        due("30 not hit", x.cell(1, 1, 1), 10);
        makeClear(x);
        due("30 5 off below", x.loose(1, 1, range - 5), range);
        due("30 hit", x.cell(1, 1, 1), 10 - force);
        makeClear(x);
        due("30 6 off below", x.loose(2, 1, range - 6), range);
        due("30 not hit below", x.cell(2, 1, 1), 10);
        x.hit(3, 0, 99);
        int standing = x.count(3);
        makeClear(x);
        due("30 on a fallen cell", x.loose(3, 0, range), range);
        due("30 nothing more fell", x.count(3), standing);
        x.store(1, 0);
        makeClear(x);
        due("30 no stone", x.loose(0, 0, range), -2);
        due("30 still clear", x.count(0), 3);
        x.store(1, 1);
        due("30 the last stone", x.loose(0, 0, range), range);
        due("30 none left", x.count(6), 0);
        noRangeAndGreatForce();
    }

    private static void noRangeAndGreatForce() {
        WallStones x = new WallStones();
        makeClear(x);
        due("30 no range", x.loose(0, 0, 0), -3);
        due("30 the stone is lost", x.count(6), 99);
        due("30 it was loosed", x.count(5), 1);
        due("30 at rest", x.count(0), 0);
        x = new WallStones();
        int[][] sets = {{0, 40}, {2, 9000}, {3, 160}, {4, 60}, {5, 60}, {7, 300}};
        for (int[] s : sets) {
            x.set(s[0], s[1]);
        }
        x.strength(0, 0, 99);
        int range = x.throwing(6);
        due("30 a force above 99", 300 * range / 500 + 1 > 99 ? 1 : 0, 1);
        makeClear(x);
        x.loose(0, 0, range);
        due("30 99 at most", x.cell(0, 0, 1), 0);
        x.set(7, 130);
        x.strength(1, 0, 99);
        range = x.throwing(6);
        int force = 130 * range / 500 + 1;
        due("30 where 501 would make another force", force == 130 * range / 501 + 1 ? 1 : 0, 0);
        makeClear(x);
        x.loose(1, 0, range);
        due("30 WEIGHT times RANGE by 500, and 1", x.cell(1, 0, 1), 99 - force);
    }

    private static void promises31and32() {
        int[] least = {1, 0, 0, 0, 1};
        int[] most = {200, 9999, 9999, 9999, 200};
        WallStones x = new WallStones();
        for (int i = 0; i < least.length; i++) {
            x.store(i, least[i]);
            due("31 below " + i, x.store(i, least[i] - 1), -1);
            due("31 above " + i, x.store(i, most[i] + 1), -1);
            due("31 far " + i, x.store(i, FAR[0]), -1);
            due("31 most " + i, x.store(i, most[i]), least[i]);
            due("31 least " + i, x.store(i, least[i]), most[i]);
        }
        due("31 what -1", x.store(-1, 1), -1);
        due("31 what 5", x.store(5, 1), -1);
        due("31 far what", x.store(FAR[1], 1), -1);
        for (int[] bad : new int[][] {{0, 0}, {21, 0}, {1, 2}, {1, -1}, {20, 1 << 20}, {FAR[0], 0}, {32, 0}, {20, FAR[1]}}) {
            due("32 bad", x.wet(bad[0], bad[1]), -1);
        }
        due("32 least", x.wet(1, 0), 1);
        due("32 most", x.wet(20, (1 << 20) - 1), 20);
    }

    private static void promises33and34() {
        WallStones x = new WallStones();
        for (int bad : new int[] {-1, 61, FAR[0], FAR[1]}) {
            due("33 bad", x.lasts(bad), -1);
        }
        for (int bad : new int[] {0, 101, FAR[0], FAR[1]}) {
            due("34 bad", x.rate(bad), -1);
        }
        due("33 600 turns by 48 a shot", x.lasts(13), 0);
        due("33 twelve, till the stones end", x.lasts(12), 8);
        due("34 twelve for 8 days", x.rate(8), 12);
        due("34 eleven for 9", x.rate(9), 11);
        x.set(2, 4001);
        due("33 49 turns a shot, rounded up", x.lasts(12), 8);
        x.store(0, 40);
        due("33 1200 turns by 49: 24", x.lasts(25), 0);
        due("33 24 a day, 4 days of 100 stones", x.lasts(24), 4);
        wetDays();
        ropes();
        foodAndStones();
    }

    /** The first day is day 0: by a row of bits 0, 1 the second day is the first wet one. */
    private static void wetDays() {
        WallStones x = new WallStones();
        x.wet(2, 2);
        due("33 twelve are too many on a wet day", x.lasts(12), 1);
        due("33 ten by 60 turns", x.lasts(10), 10);
        due("33 eleven on a wet day", x.lasts(11), 1);
        x.wet(2, 1);
        due("33 wet at once", x.lasts(12), 0);
        x.wet(20, 1 << 19);
        x.store(1, 9999);
        x.store(2, 9999);
        x.store(3, 9999);
        due("33 the 20th day", x.lasts(12), 19);
        x.wet(3, 4);
        due("33 the third", x.lasts(11), 2);
        // 49 turns, and 13 more on a wet day: 62 a shot
        x.set(2, 4001);
        x.store(0, 62);
        x.wet(1, 1);
        due("33 1860 turns by 62: 30", x.lasts(30), 100);
        due("33 and no more", x.lasts(31), 0);
        x.store(0, 61);
        due("33 1830 turns by 62: 29", x.lasts(29), 100);
        due("33 30 of 61 it would be, were the quarter rounded down", x.lasts(30), 0);
    }

    private static void ropes() {
        WallStones x = new WallStones();
        x.store(4, 10);
        x.store(2, 5);
        due("33 mended once, the second time wants timber", x.lasts(1), 19);
        due("33 by ten shots a day", x.lasts(10), 1);
        x.store(2, 6);
        due("33 mended twice", x.lasts(1), 29);
        x.wet(1, 1);
        due("33 worn by 2 on wet days", x.lasts(1), 14);
        x.store(4, 3);
        due("33 worn 4 of 3 is mended to 0", x.lasts(1), 5);
        x.store(4, 1);
        x.store(2, 9);
        due("33 every shot", x.lasts(3), 1);
        due("33 with none there is no rope to mend", x.lasts(0), 50);
    }

    private static void foodAndStones() {
        WallStones x = new WallStones();
        x.store(3, 39);
        due("33 food for one day", x.lasts(0), 1);
        x.store(3, 40);
        due("33 food for two", x.lasts(0), 2);
        due("34 two days", x.rate(2), 12);
        due("34 three", x.rate(3), -9);
        x.store(3, 9999);
        due("33 100 at most", x.lasts(1), 100);
        due("33 stones for 50", x.lasts(2), 50);
        due("34 a stone a day", x.rate(100), 1);
        x.store(1, 99);
        due("34 a stone too few", x.rate(100), 0);
        due("33 a stone too few", x.lasts(1), 99);
        due("33 asking costs nothing", x.count(6), 99);
    }

    private static void promise35() {
        WallStones x = thrower();
        x.wall(4, 2);
        x.hit(1, 0, 10);
        x.hit(2, 1, 10);
        x.shot(1, 1);
        x.wound();
        x.store(1, 7);
        int[] counts = {1, 4, 2, 5, 1, 0, 7, 1};
        for (int i = 0; i < counts.length; i++) {
            due("35 count(" + i + ")", x.count(i), counts[i]);
        }
        x.level(1);
        due("35 open ways by level 1", x.count(7), 2);
        for (int bad : new int[] {-1, 8, FAR[0], FAR[1]}) {
            due("35 bad", x.count(bad), -1);
        }
    }
}
