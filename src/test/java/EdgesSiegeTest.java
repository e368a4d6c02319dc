/** The sentences of "THE SIEGE", promises 31 to 34, that name a boundary, each at its edge. */
public final class EdgesSiegeTest {
    private static final Sentences S = new Sentences();
    private static final int FAR_BELOW = Integer.MIN_VALUE, FAR_ABOVE = Integer.MAX_VALUE;
    private static final String[] NAME = {"MEN", "STONES", "TIMBER", "FOOD", "LIFE"};
    private static final int[] LEAST = {1, 0, 0, 0, 1};
    private static final int[] MOST = {200, 9999, 9999, 9999, 200};
    private static final int[] FIRST = {20, 100, 10, 1000, 40};
    private static final int MEN = 0, STONES = 1, TIMBER = 2, FOOD = 3, LIFE = 4;

    public static void main(String[] args) {
        stores();
        wetRows();
        wetDays();
        food();
        turnsOfDay();
        turnsOfShot();
        wetTurns();
        stones();
        ropeWorn();
        ropeMended();
        ropeOnWetDays();
        lastsEdges();
        rateEdges();
        rateAgainstLasts();
        askingCostsNothing();
        S.end();
    }

    /** Stores so full that nothing but what a test tells ends the siege. */
    private static WallStones plenty(int... whatAndValue) {
        WallStones x = new WallStones();
        x.store(STONES, 9999);
        x.store(TIMBER, 9999);
        x.store(FOOD, 9999);
        for (int i = 0; i + 1 < whatAndValue.length; i += 2) {
            x.store(whatAndValue[i], whatAndValue[i + 1]);
        }
        return x;
    }

    private static void stores() {
        for (int i = 0; i < NAME.length; i++) {
            S.say(NAME[i] + " (" + LEAST[i] + " .. " + MOST[i] + "; " + FIRST[i] + " at first)");
            WallStones x = new WallStones();
            S.due("too small", x.store(i, LEAST[i] - 1), -1);
            S.due("too large", x.store(i, MOST[i] + 1), -1);
            S.due("far", x.store(i, FAR_BELOW), -1);
            S.due("far", x.store(i, FAR_ABOVE), -1);
            S.due("the least, told the first", x.store(i, LEAST[i]), FIRST[i]);
            S.due("too small again", x.store(i, LEAST[i] - 1), -1);
            S.due("the most, told the least", x.store(i, MOST[i]), LEAST[i]);
            S.due("too large again", x.store(i, MOST[i] + 1), -1);
            S.due("told the most", x.store(i, FIRST[i]), MOST[i]);
        }
        S.say("store: there is no such thing");
        WallStones x = new WallStones();
        for (int what : new int[] {-1, 5, FAR_BELOW, FAR_ABOVE}) {
            S.due("store(" + what + ", 1)", x.store(what, 1), -1);
        }
    }

    private static void wetRows() {
        S.say("a row of n (1 .. 20) bits");
        WallStones x = new WallStones();
        for (int bad : new int[] {0, 21, -1, 31, 32, 33, FAR_BELOW, FAR_ABOVE}) {
            S.due("wet(" + bad + ", 0)", x.wet(bad, 0), -1);
            S.due("wet(" + bad + ", 1)", x.wet(bad, 1), -1);
        }
        S.due("the least", x.wet(1, 0), 1);
        S.due("the most", x.wet(20, 0), 20);
        S.say("n bits: no more than fit the row");
        for (int n = 1; n <= 20; n++) {
            S.due("all of " + n, x.wet(n, (1 << n) - 1), n);
            S.due("one more than " + n, x.wet(n, 1 << n), -1);
            S.due("below 0 of " + n, x.wet(n, -1), -1);
        }
        S.due("far", x.wet(20, FAR_BELOW), -1);
        S.due("far", x.wet(20, FAR_ABOVE), -1);
        S.say("one bit 0 at first: no day is WET");
        // 12 shots take 576 TURNS of 600; on a WET day 10 are the most
        S.due("lasts(12)", plenty(FOOD, 2000).lasts(12), 100);
        S.say("a refused row changes nothing");
        x = plenty(FOOD, 2000);
        x.wet(1, 1);
        x.wet(1, 2);
        x.wet(0, 0);
        x.wet(21, 0);
        S.due("all days WET", x.lasts(12), 0);
        x.wet(1, 0);
        x.wet(1, 3);
        S.due("no day WET", x.lasts(12), 100);
    }

    private static void wetDays() {
        S.say("each day d is WET, if bit d modulo n is 1: the first is day 0");
        for (int n = 1; n <= 20; n++) {
            for (int d = 0; d < n; d++) {
                WallStones x = plenty(FOOD, 2000);
                x.wet(n, 1 << d);
                S.due("bit " + d + " of " + n, x.lasts(12), d);
            }
        }
        S.say("d modulo n: the row begins again");
        // by LIFE 200 and no TIMBER, 1 shot a day wears 1, on a WET day 2
        WallStones x = plenty(FOOD, 2000, LIFE, 200, TIMBER, 0);
        x.wet(2, 2);
        S.due("50 of 100 days are WET: worn 150", x.lasts(1), 100);
        x.store(LIFE, 147);
        S.due("147 on day 97", x.lasts(1), 97);
        x.store(LIFE, 148);
        S.due("148 on day 98", x.lasts(1), 98);
        x.store(LIFE, 150);
        S.due("150 on day 99", x.lasts(1), 99);
        x.store(LIFE, 151);
        S.due("151 never", x.lasts(1), 100);
        x.wet(20, 1 << 19);
        x.store(LIFE, 105);
        S.due("5 of 100 days are WET: 105 on the last", x.lasts(1), 99);
        x.store(LIFE, 106);
        S.due("106 never", x.lasts(1), 100);
        x.store(LIFE, 85);
        S.due("day 79 is the 4th WET one: 84, day 80 wears the 85th", x.lasts(1), 80);
        x.store(LIFE, 84);
        S.due("84 on day 79", x.lasts(1), 79);
        S.say("a row of 1 bit is of every day");
        x = plenty(FOOD, 2000);
        x.wet(1, 1);
        S.due("ten by 60", x.lasts(10), 100);
        S.due("eleven", x.lasts(11), 0);
    }

    private static void food() {
        S.say("FOOD is MEN less; if there is less, it ENDS");
        int[][] days = {{20, 0, 0}, {20, 19, 0}, {20, 20, 1}, {20, 39, 1}, {20, 40, 2}, {1, 1, 1}, {1, 99, 99}, {1, 100, 100},
            {1, 101, 100}, {200, 199, 0}, {200, 200, 1}, {200, 9999, 49}, {200, 9800, 49}, {200, 9799, 48}};
        for (int[] d : days) {
            WallStones x = plenty(MEN, d[0], FOOD, d[1]);
            S.due(d[0] + " MEN, " + d[1] + " FOOD, no shots", x.lasts(0), d[2]);
        }
        S.say("FOOD is eaten on days of shots as well");
        S.due("two days", plenty(FOOD, 40).lasts(12), 2);
        S.due("one day", plenty(FOOD, 39).lasts(12), 1);
    }

    private static WallStones shotOf(int box, int arm, WallStones x) {
        x.set(2, box);
        x.set(0, arm);
        return x;
    }

    private static void turnsOfDay() {
        S.say("MEN have 30 TURNS each a day: just enough is enough");
        S.due("30 of 30", shotOf(2500, 12, plenty(MEN, 1)).lasts(1), 100);
        S.due("two of 15", shotOf(1250, 12, plenty(MEN, 1)).lasts(2), 100);
        S.say("without enough TURNS for the next shot it ENDS");
        S.due("31 of 30", shotOf(2501, 12, plenty(MEN, 1)).lasts(1), 0);
        S.due("two of 16", shotOf(1251, 12, plenty(MEN, 1)).lasts(2), 0);
        S.due("one of 16", shotOf(1251, 12, plenty(MEN, 1)).lasts(1), 100);
        S.say("TURNS are of each day anew");
        S.due("600 TURNS a day, 576 used", plenty(FOOD, 2000).lasts(12), 100);
        S.due("624 would be used", plenty(FOOD, 2000).lasts(13), 0);
        S.say("the most MEN: 6000 TURNS");
        S.due("16 by 360", shotOf(9000, 40, plenty(MEN, 200)).lasts(16), 49);
        S.due("17 by 360", shotOf(9000, 40, plenty(MEN, 200)).lasts(17), 0);
    }

    private static void turnsOfShot() {
        S.say("a shot costs BOX times ARM by 1000, rounded up");
        S.due("500 by 1000 is 1: 30", shotOf(100, 5, plenty(MEN, 1)).lasts(30), 100);
        S.due("500 by 1000 is 1: 31", shotOf(100, 5, plenty(MEN, 1)).lasts(31), 0);
        S.due("1000 by 1000 is 1: 30", shotOf(200, 5, plenty(MEN, 1)).lasts(30), 100);
        S.due("1005 by 1000 is 2: 15", shotOf(201, 5, plenty(MEN, 1)).lasts(15), 100);
        S.due("1005 by 1000 is 2: 16", shotOf(201, 5, plenty(MEN, 1)).lasts(16), 0);
        S.due("360000 by 1000 is 360, of 12 MEN", shotOf(9000, 40, plenty(MEN, 12)).lasts(1), 100);
        S.due("360 of 11 MEN", shotOf(9000, 40, plenty(MEN, 11)).lasts(1), 0);
        S.say("THE MACHINE need not throw, that the siege may last");
        WallStones x = shotOf(100, 5, plenty(MEN, 1));
        S.due("no RANGE", x.throwing(6), -9);
        S.due("lasts(1)", x.lasts(1), 100);
    }

    private static WallStones wetAll(WallStones x) {
        x.wet(1, 1);
        return x;
    }

    private static void wetTurns() {
        S.say("a quarter more (rounded up) on a WET day");
        S.due("24 and 6 of 30", shotOf(2000, 12, wetAll(plenty(MEN, 1))).lasts(1), 100);
        S.due("25 and 7 of 30", shotOf(2001, 12, wetAll(plenty(MEN, 1))).lasts(1), 0);
        S.due("18 and 5: 3 of 90", shotOf(1500, 12, wetAll(plenty(MEN, 3))).lasts(3), 100);
        S.due("18 and 5: 4 are 92, by 18 and 4 they would be 88", shotOf(1500, 12, wetAll(plenty(MEN, 3))).lasts(4), 0);
        S.due("1 and 1: 15 of 30", shotOf(100, 5, wetAll(plenty(MEN, 1))).lasts(15), 100);
        S.due("1 and 1: 16 of 30", shotOf(100, 5, wetAll(plenty(MEN, 1))).lasts(16), 0);
        S.due("360 and 90 of 15 MEN", shotOf(9000, 40, wetAll(plenty(MEN, 15))).lasts(1), 100);
        S.due("360 and 90 of 14 MEN", shotOf(9000, 40, wetAll(plenty(MEN, 14))).lasts(1), 0);
        S.say("a quarter more not on a dry day");
        S.due("25 of 30", shotOf(2001, 12, plenty(MEN, 1)).lasts(1), 100);
    }

    private static void stones() {
        S.say("without STONES for the next shot it ENDS: just enough are enough");
        int[][] days = {{0, 1, 0}, {1, 1, 1}, {2, 1, 2}, {99, 1, 99}, {100, 1, 100}, {101, 1, 100}, {11, 12, 0}, {12, 12, 1},
            {23, 12, 1}, {24, 12, 2}, {0, 0, 100}};
        for (int[] d : days) {
            S.due(d[0] + " STONES, " + d[1] + " shots", plenty(FOOD, 2000, STONES, d[0]).lasts(d[1]), d[2]);
        }
    }

    private static void ropeWorn() {
        S.say("each shot wears the ROPE by 1; at LIFE or more it is mended: not at 1 less");
        int[][] days = {{5, 1, 4}, {99, 1, 98}, {100, 1, 99}, {101, 1, 100}, {200, 1, 100}, {200, 2, 99}, {12, 12, 0}, {13, 12, 1},
            {24, 12, 1}, {25, 12, 2}, {1, 1, 0}, {1, 0, 100}};
        for (int[] d : days) {
            S.due("LIFE " + d[0] + ", " + d[1] + " shots, no TIMBER", plenty(FOOD, 2000, TIMBER, 0, LIFE, d[0]).lasts(d[1]), d[2]);
        }
        S.say("the ROPE is worn on from day to day, and begins worn 0 each time that is asked");
        WallStones x = plenty(FOOD, 2000, TIMBER, 0, LIFE, 20);
        S.due("12 and 8", x.lasts(12), 1);
        S.due("the same again", x.lasts(12), 1);
        S.due("9, 9 and 2", x.lasts(9), 2);
    }

    private static void ropeMended() {
        S.say("mended with 3 TIMBER: just enough is enough, without as much it ENDS");
        int[][] days = {{0, 4}, {1, 4}, {2, 4}, {3, 9}, {5, 9}, {6, 14}, {56, 94}, {57, 99}, {60, 100}};
        for (int[] d : days) {
            S.due("LIFE 5, " + d[0] + " TIMBER", plenty(FOOD, 2000, TIMBER, d[0], LIFE, 5).lasts(1), d[1]);
        }
        S.say("after that shot: the day is not whole, though it was the last shot of it");
        S.due("12 of 12", plenty(FOOD, 2000, TIMBER, 2, LIFE, 12).lasts(12), 0);
        S.due("with TIMBER it is", plenty(FOOD, 2000, TIMBER, 3, LIFE, 12).lasts(12), 1);
        S.say("a LIFE of 1: each shot is mended, many in a day");
        S.due("12 by 3 of 36", plenty(FOOD, 2000, TIMBER, 36, LIFE, 1).lasts(12), 1);
        S.due("12 by 3 of 35", plenty(FOOD, 2000, TIMBER, 35, LIFE, 1).lasts(12), 0);
        S.due("12 by 3 of 71", plenty(FOOD, 2000, TIMBER, 71, LIFE, 1).lasts(12), 1);
        S.due("12 by 3 of 72", plenty(FOOD, 2000, TIMBER, 72, LIFE, 1).lasts(12), 2);
    }

    private static void ropeOnWetDays() {
        S.say("by 2 on a WET day");
        int[][] days = {{1, 0}, {2, 0}, {3, 1}, {4, 1}, {5, 2}, {198, 98}, {199, 99}, {200, 99}};
        for (int[] d : days) {
            S.due("LIFE " + d[0], wetAll(plenty(FOOD, 2000, TIMBER, 0, LIFE, d[0])).lasts(1), d[1]);
        }
        S.say("worn 0 then: what is more than LIFE is forgotten");
        S.due("2, 4, 2, 4 by 3", wetAll(plenty(FOOD, 2000, TIMBER, 3, LIFE, 3)).lasts(1), 3);
        S.due("and once more", wetAll(plenty(FOOD, 2000, TIMBER, 6, LIFE, 3)).lasts(1), 5);
        S.say("by 2 of LIFE 1: mended once a shot");
        S.due("one", wetAll(plenty(FOOD, 2000, TIMBER, 3, LIFE, 1)).lasts(1), 1);
        S.due("ten", wetAll(plenty(FOOD, 2000, TIMBER, 30, LIFE, 1)).lasts(10), 1);
        S.due("ten, with 29", wetAll(plenty(FOOD, 2000, TIMBER, 29, LIFE, 1)).lasts(10), 0);
    }

    private static void lastsEdges() {
        S.say("LASTS: r shots each (0 .. 60)");
        WallStones x = shotOf(100, 5, plenty(MEN, 2, LIFE, 200));
        for (int bad : new int[] {-1, 61, FAR_BELOW, FAR_ABOVE}) {
            S.due("lasts(" + bad + ")", x.lasts(bad), -1);
        }
        S.due("none", x.lasts(0), 100);
        S.due("60 of 1 TURN by 2 MEN", x.lasts(60), 100);
        S.say("LASTS: 100 at most");
        S.due("FOOD for 9999 days", plenty(MEN, 1).lasts(0), 100);
        S.due("FOOD for 101 days", plenty(MEN, 1, FOOD, 101).lasts(0), 100);
        S.due("FOOD for 100 days", plenty(MEN, 1, FOOD, 100).lasts(0), 100);
        S.due("FOOD for 99 days", plenty(MEN, 1, FOOD, 99).lasts(0), 99);
    }

    private static void rateEdges() {
        S.say("BEST RATE for D days (1 .. 100)");
        WallStones x = plenty(FOOD, 2000);
        for (int bad : new int[] {0, 101, -1, FAR_BELOW, FAR_ABOVE}) {
            S.due("rate(" + bad + ")", x.rate(bad), -1);
        }
        S.due("the least", x.rate(1), 12);
        S.due("the most", x.rate(100), 12);
        S.say("BEST RATE: 60 is the most that there is");
        x = shotOf(100, 5, plenty(MEN, 200));
        S.due("6000 TURNS", x.rate(1), 60);
        x = shotOf(100, 5, plenty(MEN, 2));
        S.due("60 TURNS", x.rate(100), 60);
        x = shotOf(100, 5, plenty(MEN, 1));
        S.due("30 TURNS", x.rate(100), 30);
        S.say("BEST RATE may be 0");
        S.due("no STONES", plenty(FOOD, 2000, STONES, 0).rate(100), 0);
        S.due("no TURNS", shotOf(9000, 40, plenty(MEN, 1)).rate(100), 0);
        S.due("a STONE too few", plenty(FOOD, 2000, STONES, 99).rate(100), 0);
        S.due("a STONE a day", plenty(FOOD, 2000, STONES, 100).rate(100), 1);
        S.say("BEST RATE: NONE, if none lasts so long");
        S.due("FOOD for 99", plenty(FOOD, 1999).rate(100), -9);
        S.due("FOOD for 99, for 99", plenty(FOOD, 1999).rate(99), 12);
        S.due("no FOOD", plenty(FOOD, 0).rate(1), -9);
        S.due("BAD comes before NONE", plenty(FOOD, 0).rate(101), -1);
    }

    private static void rateAgainstLasts() {
        S.say("BEST RATE: the greatest r that LASTS so long, of all sorts of stores");
        int[] lives = {1, 3, 7, 40};
        int[] bits = {0, 1, 5, 6};
        for (int life : lives) {
            for (int row : bits) {
                WallStones x = plenty(MEN, 50, TIMBER, 40, LIFE, life, STONES, 600);
                x.wet(3, row);
                for (int days : new int[] {1, 7, 20, 100}) {
                    int best = -9;
                    for (int r = 0; r <= 60; r++) {
                        best = x.lasts(r) >= days ? r : best;
                    }
                    S.due("LIFE " + life + ", row " + row + ", " + days + " days", x.rate(days), best);
                }
            }
        }
    }

    private static void askingCostsNothing() {
        S.say("LASTS and BEST RATE only ask: the stores stay");
        WallStones x = new WallStones();
        x.lasts(12);
        x.lasts(1);
        x.rate(1);
        x.rate(50);
        for (int i = 0; i < NAME.length; i++) {
            S.due(NAME[i], x.store(i, FIRST[i]), FIRST[i]);
        }
        S.say("a STONE that is LOOSED takes nothing but a STONE");
        x.set(4, 60);
        x.wound();
        x.sling();
        x.near(0);
        x.loose(0, 0, 0);
        for (int i = 0; i < NAME.length; i++) {
            S.due(NAME[i], x.store(i, FIRST[i]), i == STONES ? 99 : FIRST[i]);
        }
        S.say("a STONE that is LOOSED wears no ROPE of what LASTS tells");
        x = plenty(FOOD, 2000, TIMBER, 0, LIFE, 5);
        S.due("before", x.lasts(1), 4);
        x.wound();
        x.sling();
        x.near(0);
        x.loose(0, 0, 0);
        S.due("one is LOOSED", x.count(5), 1);
        S.due("after", x.lasts(1), 4);
    }
}
