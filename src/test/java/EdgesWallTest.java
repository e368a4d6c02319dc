/** The sentences of "3 THE WALL", promises 15 to 26, that name a boundary, each at its edge. */
public final class EdgesWallTest {
    private static final Sentences S = new Sentences();
    private static final int FAR_BELOW = Integer.MIN_VALUE, FAR_ABOVE = Integer.MAX_VALUE;

    public static void main(String[] args) {
        columnsAndRows();
        aNewWall();
        strengths();
        forces();
        hits();
        props();
        falls();
        fallenStays();
        levels();
        openWays();
        soonestEdges();
        soonestByProps();
        soonestRefused();
        weights();
        outsideAndFallen();
        worths();
        aims();
        heldShots();
        heldEdges();
        heldRefused();
        askingChangesNothing();
        S.end();
    }

    private static WallStones wallOf(int w, int h) {
        WallStones x = new WallStones();
        x.wall(w, h);
        return x;
    }

    private static void scatterAll(WallStones x, int v) {
        for (int across = -1; across <= 1; across++) {
            for (int up = -1; up <= 1; up++) {
                x.scatter(across, up, v);
            }
        }
    }

    private static int standingIn(WallStones x, int column) {
        int n = 0;
        for (int y = 0; y < x.count(2); y++) {
            n += x.cell(column, y, 0);
        }
        return n;
    }

    /** For calls that ask for a CELL: none of these is one of a wall of 5 columns and 3 rows. */
    private static final int[][] NO_CELLS = {{-1, 0}, {5, 0}, {0, -1}, {0, 3}, {FAR_BELOW, 0}, {FAR_ABOVE, 0},
        {0, FAR_BELOW}, {0, FAR_ABOVE}, {-1, 2}, {4, -1}};

    private static void columnsAndRows() {
        S.say("W columns, H rows (1 .. 8, 1 .. 6; 5, 3 at first)");
        WallStones x = new WallStones();
        S.due("W at first", x.count(1), 5);
        S.due("H at first", x.count(2), 3);
        int[][] bad = {{0, 1}, {9, 1}, {1, 0}, {1, 7}, {-1, 1}, {1, -1}, {6, 8}, {FAR_BELOW, 1}, {FAR_ABOVE, 1},
            {1, FAR_BELOW}, {1, FAR_ABOVE}};
        for (int[] b : bad) {
            S.due("wall(" + b[0] + ", " + b[1] + ")", x.wall(b[0], b[1]), -1);
        }
        S.due("W as before", x.count(1), 5);
        S.due("H as before", x.count(2), 3);
        S.due("the least", x.wall(1, 1), 1);
        S.due("one CELL", x.count(3), 1);
        S.due("the most", x.wall(8, 6), 48);
        S.due("48 CELLS", x.count(3), 48);
        S.due("the widest, of one row", x.wall(8, 1), 8);
        S.due("the highest, of one column", x.wall(1, 6), 6);
        S.say("the last column and row are of THE WALL, none beyond");
        for (int[] size : new int[][] {{1, 1}, {8, 6}, {8, 1}, {1, 6}, {5, 3}}) {
            x.wall(size[0], size[1]);
            S.due("the last CELL", x.cell(size[0] - 1, size[1] - 1, 0), 1);
            S.due("a column beyond", x.cell(size[0], size[1] - 1, 0), -1);
            S.due("a row beyond", x.cell(size[0] - 1, size[1], 0), -1);
        }
        S.say("row 0 below");
        x.wall(2, 3);
        S.due("the lowest takes all with it", x.hit(0, 0, 10), 3);
        S.due("the highest takes none with it", x.hit(1, 2, 10), 1);
    }

    private static void aNewWall() {
        S.say("a new WALL: all CELLS stand, of STRENGTH 10, not PROPPED");
        WallStones x = new WallStones();
        x.strength(1, 1, 50);
        x.prop(1, 1);
        x.hit(1, 0, 5);
        x.hit(0, 0, 10);
        x.wall(5, 3);
        for (int cx = 0; cx < 5; cx++) {
            for (int cy = 0; cy < 3; cy++) {
                S.due("stands", x.cell(cx, cy, 0), 1);
                S.due("strength", x.cell(cx, cy, 1), 10);
                S.due("propped", x.cell(cx, cy, 2), 0);
            }
        }
        S.say("a greater WALL after a lesser one has CELLS everywhere");
        x.wall(1, 1);
        x.hit(0, 0, 99);
        x.wall(8, 6);
        S.due("all stand", x.count(3), 48);
        S.due("the last one's strength", x.cell(7, 5, 1), 10);
        S.say("a lesser WALL after a greater one has no more than its own");
        x.wall(2, 2);
        S.due("four stand", x.count(3), 4);
        x.level(2);
        S.due("two columns are an OPEN WAY", x.count(7), 2);
        S.say("a new WALL leaves LEVEL and the weights");
        x.scatter(1, 1, 7);
        x.wall(3, 3);
        S.due("LEVEL", x.level(2), 2);
        S.due("weight", x.scatter(1, 1, 7), 7);
    }

    private static void strengths() {
        S.say("STRENGTH (1 .. 99; 10 at first)");
        WallStones x = new WallStones();
        for (int bad : new int[] {0, 100, -1, FAR_BELOW, FAR_ABOVE}) {
            S.due("strength(4, 2, " + bad + ")", x.strength(4, 2, bad), -1);
        }
        S.due("the least, told the first", x.strength(4, 2, 1), 10);
        S.due("the most, told the least", x.strength(4, 2, 99), 1);
        S.due("told the most", x.strength(4, 2, 10), 99);
        S.say("strength: of no such CELL");
        for (int[] b : NO_CELLS) {
            S.due("strength(" + b[0] + ", " + b[1] + ", 5)", x.strength(b[0], b[1], 5), -1);
        }
        S.say("strength: STATE, it is fallen, and BAD comes before it");
        x.strength(2, 2, 33);
        x.hit(2, 1, 10);
        S.due("hit down", x.strength(2, 1, 5), -2);
        S.due("fallen by what fell beneath it", x.strength(2, 2, 5), -2);
        S.due("too small", x.strength(2, 1, 0), -1);
        S.due("too large", x.strength(2, 2, 100), -1);
        S.due("nothing changed", x.cell(2, 2, 1), 33);
        S.due("beneath it one stands", x.strength(2, 0, 5), 10);
        S.say("STRENGTH of a CELL is its own");
        WallStones y = new WallStones();
        y.strength(1, 1, 77);
        int sum = 0;
        for (int cx = 0; cx < 5; cx++) {
            for (int cy = 0; cy < 3; cy++) {
                sum += y.cell(cx, cy, 1);
            }
        }
        S.due("all STRENGTHS", sum, 14 * 10 + 77);
        S.say("STRENGTH after a HIT is told, and may be told up again");
        y.hit(1, 1, 76);
        S.due("1 is left", y.strength(1, 1, 99), 1);
        S.due("99", y.cell(1, 1, 1), 99);
    }

    private static void forces() {
        S.say("hit: FORCE 1 .. 99");
        WallStones x = new WallStones();
        for (int bad : new int[] {0, 100, -1, FAR_BELOW, FAR_ABOVE}) {
            S.due("hit(0, 0, " + bad + ")", x.hit(0, 0, bad), -1);
        }
        S.due("STRENGTH as before", x.cell(0, 0, 1), 10);
        x.strength(0, 0, 99);
        S.due("the least", x.hit(0, 0, 1), 0);
        S.due("98 are left", x.cell(0, 0, 1), 98);
        x.strength(0, 0, 99);
        S.due("the most", x.hit(0, 0, 99), 3);
        S.say("hit: of no such CELL");
        for (int[] b : NO_CELLS) {
            S.due("hit(" + b[0] + ", " + b[1] + ", 9)", x.hit(b[0], b[1], 9), -1);
        }
        S.say("hit: STATE, it is fallen, and BAD comes before it");
        S.due("fallen", x.hit(0, 0, 1), -2);
        S.due("fallen by what fell beneath it", x.hit(0, 2, 99), -2);
        S.due("too small", x.hit(0, 0, 0), -1);
        S.due("too large", x.hit(0, 0, 100), -1);
    }

    private static void hits() {
        S.say("STRENGTH is f less; with 1 it stands");
        WallStones x = new WallStones();
        S.due("9 of 10", x.hit(0, 2, 9), 0);
        S.due("STRENGTH", x.cell(0, 2, 1), 1);
        S.due("stands", x.cell(0, 2, 0), 1);
        S.say("with 0 it FALLS");
        S.due("1 of 1", x.hit(0, 2, 1), 1);
        S.due("STRENGTH", x.cell(0, 2, 1), 0);
        S.due("stands no more", x.cell(0, 2, 0), 0);
        S.say("with below 0 it FALLS");
        S.due("11 of 10", x.hit(1, 2, 11), 1);
        S.due("STRENGTH", x.cell(1, 2, 1), -1);
        S.due("stands no more", x.cell(1, 2, 0), 0);
        S.due("99 of 10", x.hit(2, 2, 99), 1);
        S.due("STRENGTH", x.cell(2, 2, 1), -89);
        S.say("what FALLS by what fell beneath it keeps its STRENGTH");
        x.strength(3, 1, 42);
        x.hit(3, 0, 10);
        S.due("STRENGTH", x.cell(3, 1, 1), 42);
        S.due("stands no more", x.cell(3, 1, 0), 0);
        S.say("cell: what 0 .. 2");
        for (int bad : new int[] {-1, 3, FAR_BELOW, FAR_ABOVE}) {
            S.due("cell(0, 0, " + bad + ")", x.cell(0, 0, bad), -1);
        }
        S.say("cell: of no such CELL");
        for (int[] b : NO_CELLS) {
            for (int what = 0; what <= 2; what++) {
                S.due("cell(" + b[0] + ", " + b[1] + ", " + what + ")", x.cell(b[0], b[1], what), -1);
            }
        }
    }

    private static void props() {
        S.say("prop: whether it was");
        WallStones x = new WallStones();
        S.due("was not", x.prop(4, 2), 0);
        S.due("was", x.prop(4, 2), 1);
        S.due("is", x.cell(4, 2, 2), 1);
        S.due("the one beside it is not", x.cell(3, 2, 2), 0);
        S.due("the one beneath it is not", x.cell(4, 1, 2), 0);
        S.say("prop: of no such CELL");
        for (int[] b : NO_CELLS) {
            S.due("prop(" + b[0] + ", " + b[1] + ")", x.prop(b[0], b[1]), -1);
        }
        S.say("a HIT: it is PROPPED no more, though it stands");
        S.due("it stands", x.hit(4, 2, 1), 0);
        S.due("not PROPPED", x.cell(4, 2, 2), 0);
        S.due("may be PROPPED again", x.prop(4, 2), 0);
        S.say("a refused HIT takes no prop");
        x.hit(4, 2, 0);
        x.hit(4, 2, 100);
        S.due("still PROPPED", x.cell(4, 2, 2), 1);
        S.say("a HIT takes the prop of the CELL that is hit alone");
        x.prop(4, 1);
        x.prop(4, 0);
        x.hit(4, 1, 1);
        S.due("beneath", x.cell(4, 0, 2), 1);
        S.due("hit", x.cell(4, 1, 2), 0);
        S.due("above", x.cell(4, 2, 2), 1);
        S.say("a CELL that is hit down is PROPPED no more");
        x.hit(4, 0, 99);
        S.due("row 0", x.cell(4, 0, 2), 0);
        S.say("prop: STATE, it is fallen");
        S.due("hit down", x.prop(4, 0), -2);
        S.due("fallen by what fell beneath it", x.prop(4, 1), -2);
        S.due("PROPPED, it stands", x.prop(4, 2), 1);
    }

    private static void falls() {
        S.say("again and again: to the top of the highest WALL");
        WallStones x = wallOf(2, 6);
        S.due("6 FALL", x.hit(0, 0, 10), 6);
        S.due("the other column stands", standingIn(x, 1), 6);
        S.say("each CELL that is not PROPPED: a PROPPED one stands, and what is over it");
        x = wallOf(1, 6);
        x.prop(0, 2);
        S.due("two FALL", x.hit(0, 0, 10), 2);
        S.due("four stand", standingIn(x, 0), 4);
        S.due("the PROPPED one", x.cell(0, 2, 0), 1);
        S.due("the one over it", x.cell(0, 3, 0), 1);
        S.say("the topmost PROPPED stands over all that fell");
        x = wallOf(1, 6);
        x.prop(0, 5);
        S.due("five FALL", x.hit(0, 0, 10), 5);
        S.due("the topmost", x.cell(0, 5, 0), 1);
        S.say("a HIT that takes the prop over a fallen CELL lets it FALL, whatever STRENGTH it has");
        x.strength(0, 5, 99);
        S.due("1 of 99", x.hit(0, 5, 1), 1);
        S.due("98 are left of it", x.cell(0, 5, 1), 98);
        S.say("a HIT that takes the prop over a CELL that stands lets nothing FALL");
        x = wallOf(1, 6);
        x.prop(0, 3);
        S.due("none", x.hit(0, 3, 1), 0);
        S.due("all stand", standingIn(x, 0), 6);
        S.say("row 0 has none beneath it");
        S.due("none", x.hit(0, 0, 9), 0);
        S.due("it stands", x.cell(0, 0, 0), 1);
        S.say("one beneath it that is fallen: none FALLS beneath the one that is hit");
        S.due("row 3 to 5", x.hit(0, 3, 9), 3);
        S.due("row 0 to 2 stand", standingIn(x, 0), 3);
        S.say("how many CELLS FALL by it: not those that fell before");
        S.due("row 2", x.hit(0, 2, 10), 1);
        S.due("row 0 and 1", x.hit(0, 0, 10), 2);
        S.say("two props in one column");
        x = wallOf(1, 6);
        x.prop(0, 1);
        x.prop(0, 4);
        S.due("row 0", x.hit(0, 0, 10), 1);
        S.due("row 1 to 3", x.hit(0, 1, 1), 3);
        S.due("row 4 and 5", x.hit(0, 4, 1), 2);
        S.due("none stands", x.count(3), 0);
    }

    private static void fallenStays() {
        S.say("what FELL stays so");
        WallStones x = wallOf(1, 3);
        x.prop(0, 2);
        x.hit(0, 0, 10);
        x.strength(0, 0, 99);
        x.prop(0, 1);
        x.hit(0, 2, 1);
        for (int y = 0; y < 3; y++) {
            S.due("row " + y, x.cell(0, y, 0), 0);
        }
        S.due("none stands", x.count(3), 0);
        S.due("STRENGTH of row 0", x.cell(0, 0, 1), 0);
    }

    private static void levels() {
        S.say("LEVEL (0 .. 2; 0 at first)");
        WallStones x = new WallStones();
        for (int bad : new int[] {-1, 3, FAR_BELOW, FAR_ABOVE}) {
            S.due("level(" + bad + ")", x.level(bad), -1);
        }
        S.due("the most, told the first", x.level(2), 0);
        S.due("too large", x.level(3), -1);
        S.due("told the most", x.level(0), 2);
        S.due("told the least", x.level(1), 0);
        S.due("too small", x.level(-1), -1);
        S.due("told 1", x.level(1), 1);
    }

    private static void openWays() {
        S.say("OPEN WAY: a column in which LEVEL CELLS at most stand");
        for (int level = 0; level <= 2; level++) {
            WallStones x = wallOf(3, 6);
            x.level(level);
            for (int stand = 5; stand >= 0; stand--) {
                x.hit(1, stand, 10);
                S.due("level " + level + ", " + stand + " stand", x.open(), stand <= level ? 1 : -9);
                S.due("level " + level + ", " + stand + " stand", x.count(7), stand <= level ? 1 : 0);
            }
        }
        S.say("a WALL no higher than LEVEL is open from the first");
        for (int h = 1; h <= 3; h++) {
            for (int level = 0; level <= 2; level++) {
                WallStones x = wallOf(2, h);
                x.level(level);
                S.due("h " + h + ", level " + level, x.open(), h <= level ? 0 : -9);
                S.due("columns of h " + h + ", level " + level, x.count(7), h <= level ? 2 : 0);
            }
        }
        S.say("open: the first column, from the last to column 0");
        WallStones x = wallOf(8, 1);
        S.due("NONE", x.open(), -9);
        for (int column = 7; column >= 0; column--) {
            x.hit(column, 0, 10);
            S.due("open()", x.open(), column);
            S.due("count(7)", x.count(7), 8 - column);
        }
        S.say("what stands PROPPED over a gap counts as standing");
        x = wallOf(1, 3);
        x.prop(0, 2);
        x.hit(0, 0, 10);
        S.due("by LEVEL 0", x.open(), -9);
        x.level(1);
        S.due("by LEVEL 1", x.open(), 0);
    }

    private static void soonestDue(WallStones x, int force, int column, int hits) {
        S.due("soonest(" + force + ", 0)", x.soonest(force, 0), column);
        S.due("soonest(" + force + ", 1)", x.soonest(force, 1), hits);
    }

    private static void soonestEdges() {
        S.say("SOONEST by FORCE 1 .. 99: HITS rounded up");
        WallStones x = new WallStones();
        int[][] tens = {{1, 10}, {2, 5}, {3, 4}, {4, 3}, {5, 2}, {9, 2}, {10, 1}, {11, 1}, {99, 1}};
        for (int[] t : tens) {
            soonestDue(x, t[0], 0, t[1]);
        }
        S.say("SOONEST: of several columns the least");
        x.strength(0, 0, 11);
        soonestDue(x, 10, 1, 1);
        x.strength(1, 0, 11);
        x.strength(2, 0, 11);
        x.strength(3, 0, 11);
        soonestDue(x, 10, 4, 1);
        x.strength(4, 0, 11);
        soonestDue(x, 10, 0, 2);
        S.say("SOONEST of an OPEN WAY: no HITS");
        x.hit(3, 0, 99);
        soonestDue(x, 10, 3, 0);
        x.level(2);
        x.hit(2, 2, 99);
        soonestDue(x, 1, 2, 0);
        x.wall(8, 2);
        soonestDue(x, 1, 0, 0);
        S.say("SOONEST leaves LEVEL CELLS at most: the topmost may be enough");
        x = wallOf(1, 4);
        x.strength(0, 0, 40);
        x.strength(0, 1, 30);
        x.strength(0, 2, 20);
        x.strength(0, 3, 10);
        soonestDue(x, 10, 0, 4);
        x.level(1);
        soonestDue(x, 10, 0, 3);
        x.level(2);
        soonestDue(x, 10, 0, 2);
        S.say("SOONEST of CELLS that were hit: what is left of STRENGTH");
        x.hit(0, 2, 10);
        soonestDue(x, 10, 0, 1);
    }

    private static void soonestByProps() {
        S.say("SOONEST by the most: 8 columns, 6 rows, all of STRENGTH 99 and PROPPED");
        WallStones x = wallOf(8, 6);
        for (int cx = 0; cx < 8; cx++) {
            for (int cy = 0; cy < 6; cy++) {
                x.strength(cx, cy, 99);
                x.prop(cx, cy);
            }
        }
        soonestDue(x, 1, 0, 99 + 5);
        soonestDue(x, 98, 0, 2 + 5);
        soonestDue(x, 99, 0, 1 + 5);
        x.level(1);
        soonestDue(x, 1, 0, 99 + 4);
        x.level(2);
        soonestDue(x, 1, 0, 99 + 3);
        S.say("SOONEST: a prop over a gap takes one HIT, whatever STRENGTH");
        x = wallOf(1, 3);
        x.strength(0, 2, 99);
        x.prop(0, 2);
        x.hit(0, 0, 10);
        soonestDue(x, 1, 0, 1);
        S.say("SOONEST: what stands over a prop FALLS with it");
        x = wallOf(1, 6);
        x.prop(0, 1);
        soonestDue(x, 10, 0, 2);
        S.say("SOONEST: what stands PROPPED may be left");
        x.level(1);
        x.wall(1, 2);
        x.prop(0, 1);
        x.strength(0, 1, 99);
        soonestDue(x, 10, 0, 1);
        S.say("SOONEST: a lone prop at the top may be left, by LEVEL 1, though row 0 is the weakest");
        x = wallOf(1, 3);
        x.level(1);
        x.strength(0, 0, 2);
        x.strength(0, 1, 50);
        x.prop(0, 2);
        soonestDue(x, 1, 0, 2);
    }

    private static void soonestRefused() {
        S.say("soonest: FORCE 1 .. 99, what 0 .. 1");
        WallStones x = new WallStones();
        int[][] bad = {{0, 0}, {100, 0}, {-1, 0}, {1, -1}, {1, 2}, {FAR_BELOW, 0}, {FAR_ABOVE, 0}, {1, FAR_BELOW}, {1, FAR_ABOVE}};
        for (int[] b : bad) {
            S.due("soonest(" + b[0] + ", " + b[1] + ")", x.soonest(b[0], b[1]), -1);
        }
    }

    private static void weights() {
        S.say("nine weights (0 .. 9; 1 in the middle, others 0 at first)");
        WallStones x = new WallStones();
        for (int across = -1; across <= 1; across++) {
            for (int up = -1; up <= 1; up++) {
                int first = across == 0 && up == 0 ? 1 : 0;
                S.due("too small", x.scatter(across, up, -1), -1);
                S.due("too large", x.scatter(across, up, 10), -1);
                S.due("the most, told the first", x.scatter(across, up, 9), first);
                S.due("the least, told the most", x.scatter(across, up, 0), 9);
                S.due("told the least", x.scatter(across, up, 3 * across + up + 4), 0);
            }
        }
        for (int across = -1; across <= 1; across++) {
            for (int up = -1; up <= 1; up++) {
                S.due("each is its own", x.scatter(across, up, 0), 3 * across + up + 4);
            }
        }
        S.say("scatter: columns (-1 .. 1), rows (-1 .. 1)");
        int[][] bad = {{-2, 0}, {2, 0}, {0, -2}, {0, 2}, {FAR_BELOW, 0}, {FAR_ABOVE, 0}, {0, FAR_BELOW}, {0, FAR_ABOVE},
            {2, -1}, {-2, 1}};
        for (int[] b : bad) {
            S.due("scatter(" + b[0] + ", " + b[1] + ", 1)", x.scatter(b[0], b[1], 1), -1);
        }
        S.due("scatter(0, 0, far)", x.scatter(0, 0, FAR_ABOVE), -1);
        S.due("scatter(0, 0, far)", x.scatter(0, 0, FAR_BELOW), -1);
    }

    private static void outsideAndFallen() {
        S.say("one column less, as told, more, by one row less, as told, more");
        for (int across = -1; across <= 1; across++) {
            for (int up = -1; up <= 1; up++) {
                WallStones x = wallOf(3, 3);
                x.scatter(0, 0, 0);
                x.scatter(across, up, 1);
                x.strength(1 + across, 1 + up, 1);
                S.due("the one CELL that is weak, " + across + ", " + up, x.worth(1, 1, 1), 3 - 1 - up);
            }
        }
        S.say("outside THE WALL nothing is hit");
        WallStones x = wallOf(1, 1);
        scatterAll(x, 9);
        S.due("the one CELL alone", x.worth(0, 0, 10), 9);
        x.scatter(0, 0, 0);
        S.due("all beside it", x.worth(0, 0, 10), 0);
        S.say("outside THE WALL: no column comes after the last, and no row");
        x = wallOf(3, 2);
        x.scatter(0, 0, 0);
        x.scatter(1, 0, 1);
        S.due("right of the last", x.worth(2, 0, 10), 0);
        S.due("right of the last, above", x.worth(2, 1, 10), 0);
        x.scatter(1, 0, 0);
        x.scatter(-1, 0, 1);
        S.due("left of the first", x.worth(0, 1, 10), 0);
        S.due("left of the first, below", x.worth(0, 0, 10), 0);
        x.scatter(-1, 0, 0);
        x.scatter(0, 1, 1);
        S.due("over the highest", x.worth(1, 1, 10), 0);
        x.scatter(0, 1, 0);
        x.scatter(0, -1, 1);
        S.due("beneath the lowest", x.worth(1, 0, 10), 0);
        S.say("nor where a CELL is fallen");
        x = wallOf(2, 1);
        x.scatter(1, 0, 2);
        S.due("both", x.worth(0, 0, 10), 3);
        x.hit(1, 0, 10);
        S.due("the one that stands", x.worth(0, 0, 10), 1);
        S.due("the fallen one aimed at", x.worth(1, 0, 10), 0);
        x.scatter(-1, 0, 5);
        S.due("by the fallen one aimed at, its left", x.worth(1, 0, 10), 5);
    }

    private static void worths() {
        S.say("WORTH: the sum of weights times how many CELLS FALL by that HIT, each on THE WALL as it is");
        WallStones x = wallOf(3, 3);
        scatterAll(x, 9);
        S.due("3, 2 and 1 in each of three columns", x.worth(1, 1, 10), 9 * 3 * 6);
        S.due("a FORCE too small", x.worth(1, 1, 9), 0);
        S.due("in the corner", x.worth(0, 0, 10), 9 * 2 * 5);
        S.say("worth by the most: what FALLS by 9 HITS of weight 9 at the foot of 6 rows");
        x = wallOf(8, 6);
        scatterAll(x, 9);
        S.due("6 and 5 in each of three columns", x.worth(6, 0, 99), 9 * 3 * 11);
        S.say("worth: all weights 0");
        scatterAll(x, 0);
        S.due("nothing", x.worth(6, 0, 99), 0);
        S.say("worth: of no such CELL, FORCE 1 .. 99");
        x = new WallStones();
        for (int[] b : NO_CELLS) {
            S.due("worth(" + b[0] + ", " + b[1] + ", 9)", x.worth(b[0], b[1], 9), -1);
        }
        for (int bad : new int[] {0, 100, -1, FAR_BELOW, FAR_ABOVE}) {
            S.due("worth(0, 0, " + bad + ")", x.worth(0, 0, bad), -1);
        }
        S.due("the least FORCE", x.worth(4, 2, 1), 0);
        S.due("the most FORCE", x.worth(4, 2, 99), 1);
    }

    private static void aimDue(WallStones x, int force, int cell, int worth) {
        S.due("aim(" + force + ", 0)", x.aim(force, 0), cell);
        S.due("aim(" + force + ", 1)", x.aim(force, 1), worth);
    }

    private static void aims() {
        S.say("BEST AIM: of several the least");
        WallStones x = wallOf(3, 2);
        aimDue(x, 10, 0, 2);
        x.strength(0, 0, 11);
        aimDue(x, 10, 1, 2);
        S.say("BEST AIM: a WORTH of nothing everywhere is of CELL 0");
        aimDue(x, 9, 0, 0);
        scatterAll(x, 0);
        aimDue(x, 99, 0, 0);
        S.say("BEST AIM: column and W times row");
        x = wallOf(3, 2);
        for (int i = 0; i < 3; i++) {
            x.strength(i, 0, 99);
            x.strength(i, 1, i == 2 ? 10 : 99);
        }
        aimDue(x, 10, 2 + 3, 1);
        S.say("BEST AIM: the last CELL of the greatest WALL");
        x = wallOf(8, 6);
        for (int cx = 0; cx < 8; cx++) {
            for (int cy = 0; cy < 6; cy++) {
                x.strength(cx, cy, 99);
            }
        }
        x.strength(7, 5, 98);
        aimDue(x, 98, 47, 1);
        S.say("BEST AIM is a CELL of THE WALL, though one aimed over it, under it or beside it were worth more");
        x = wallOf(2, 2);
        x.scatter(0, 0, 0);
        for (int cx = 0; cx < 2; cx++) {
            x.strength(cx, 0, 99);
        }
        x.scatter(0, -1, 1);
        aimDue(x, 10, 0, 0);
        x.scatter(0, -1, 0);
        x.scatter(1, -1, 1);
        aimDue(x, 10, 0, 0);
        x.scatter(1, -1, 0);
        x.scatter(-1, -1, 1);
        aimDue(x, 10, 0, 0);
        x = wallOf(1, 1);
        x.scatter(0, 0, 0);
        x.scatter(0, 1, 9);
        x.scatter(1, 0, 9);
        x.scatter(-1, 0, 9);
        aimDue(x, 10, 0, 0);
        S.say("BEST AIM by the least FORCE and by the most");
        x = new WallStones();
        aimDue(x, 1, 0, 0);
        x.strength(3, 1, 1);
        aimDue(x, 1, 3 + 5, 2);
        aimDue(x, 99, 0, 3);
        S.say("BEST AIM may be a fallen CELL");
        x = wallOf(2, 1);
        x.scatter(0, 0, 0);
        x.scatter(-1, 0, 1);
        x.hit(1, 0, 10);
        aimDue(x, 10, 1, 1);
        S.say("aim: FORCE 1 .. 99, what 0 .. 1");
        int[][] bad = {{0, 0}, {100, 0}, {-1, 0}, {1, -1}, {1, 2}, {FAR_BELOW, 0}, {FAR_ABOVE, 0}, {1, FAR_BELOW}, {1, FAR_ABOVE}};
        for (int[] b : bad) {
            S.due("aim(" + b[0] + ", " + b[1] + ")", x.aim(b[0], b[1]), -1);
        }
    }

    private static void heldShots() {
        S.say("HELD: of all rows of t such shots (1 .. 4), product by product");
        WallStones x = wallOf(2, 1);
        x.scatter(0, 0, 2);
        x.scatter(-1, 0, 3);
        x.strength(0, 0, 4);
        // 2 hits the CELL, 3 goes beside THE WALL: with 4 HITS of 1 it FALLS
        S.due("t 1", x.held(0, 0, 1, 1), 5);
        S.due("t 2", x.held(0, 0, 1, 2), 25);
        S.due("t 3", x.held(0, 0, 1, 3), 125);
        S.due("t 4: all but four HITS", x.held(0, 0, 1, 4), 625 - 16);
        x.strength(0, 0, 5);
        S.due("t 4 of 5", x.held(0, 0, 1, 4), 625);
        x.strength(0, 0, 3);
        S.due("t 3 of 3", x.held(0, 0, 1, 3), 125 - 8);
        S.due("t 4 of 3: not those of three HITS or four", x.held(0, 0, 1, 4), 625 - 4 * 8 * 3 - 16);
        S.say("HELD: those by which there is no OPEN WAY at the end, though it comes at the first shot");
        x.strength(0, 0, 1);
        S.due("t 1", x.held(0, 0, 1, 1), 3);
        S.due("t 4", x.held(0, 0, 1, 4), 81);
        S.say("HELD: shots fall on what the shots before have left");
        x = wallOf(1, 2);
        x.scatter(0, 1, 1);
        x.prop(0, 1);
        // aimed at row 0: both fall, if each is hit down or row 1 is hit after row 0 fell; 10 a HIT
        S.due("t 1", x.held(0, 0, 10, 1), 2);
        S.due("t 2: below and above, above and below", x.held(0, 0, 10, 2), 2);
        S.due("t 2 of 5: no two take both", x.held(0, 0, 5, 2), 4);
        S.due("t 3 of 5: two below, then above; above once among them", x.held(0, 0, 5, 3), 8 - 3);
    }

    private static void heldEdges() {
        S.say("HELD, where there is an OPEN WAY already: nothing");
        WallStones x = new WallStones();
        x.hit(4, 0, 10);
        for (int t = 1; t <= 4; t++) {
            S.due("t " + t, x.held(0, 0, 1, t), 0);
        }
        S.due("the column that is open", x.held(4, 0, 99, 1), 0);
        x.wall(5, 2);
        x.level(2);
        S.due("by LEVEL", x.held(0, 0, 1, 1), 0);
        x.level(1);
        S.due("by LEVEL 1 no more", x.held(0, 0, 1, 1), 1);
        S.due("one FALLS, one is left", x.held(0, 1, 10, 1), 0);
        S.say("HELD by the most: weights of 9, four shots");
        x = wallOf(8, 6);
        scatterAll(x, 9);
        S.due("none opens", x.held(4, 3, 1, 4), 81L * 81 * 81 * 81);
        x = wallOf(1, 1);
        scatterAll(x, 9);
        S.due("one in nine opens", x.held(0, 0, 99, 4), 72L * 72 * 72 * 72);
        S.say("HELD: all weights 0");
        scatterAll(x, 0);
        S.due("no row has any", x.held(0, 0, 99, 1), 0);
        S.due("no row has any", x.held(0, 0, 1, 4), 0);
        S.say("HELD: a weight of 0 is in no row");
        x = wallOf(2, 1);
        S.due("the middle alone, which opens", x.held(0, 0, 10, 1), 0);
        x.scatter(1, 1, 1);
        S.due("over it", x.held(0, 0, 10, 1), 1);
        S.say("HELD at a fallen CELL: what is beside it is hit");
        x = wallOf(2, 2);
        x.scatter(1, 0, 2);
        x.level(0);
        x.prop(0, 1);
        x.hit(0, 0, 10);
        S.due("2 of 3 open the right column", x.held(0, 0, 10, 1), 1);
        S.due("t 2", x.held(0, 0, 10, 2), 1);
    }

    private static void heldRefused() {
        S.say("held: t 1 .. 4");
        WallStones x = new WallStones();
        for (int bad : new int[] {0, 5, -1, FAR_BELOW, FAR_ABOVE}) {
            S.due("held(0, 0, 1, " + bad + ")", x.held(0, 0, 1, bad), -1);
        }
        S.say("held: FORCE 1 .. 99");
        for (int bad : new int[] {0, 100, -1, FAR_BELOW, FAR_ABOVE}) {
            S.due("held(0, 0, " + bad + ", 1)", x.held(0, 0, bad, 1), -1);
        }
        S.due("the least", x.held(4, 2, 1, 1), 1);
        S.due("the most", x.held(4, 2, 99, 1), 1);
        S.say("held: of no such CELL");
        for (int[] b : NO_CELLS) {
            S.due("held(" + b[0] + ", " + b[1] + ", 1, 1)", x.held(b[0], b[1], 1, 1), -1);
        }
        S.say("held: BAD, though there is an OPEN WAY");
        x.hit(0, 0, 99);
        S.due("t 5", x.held(0, 0, 1, 5), -1);
    }

    private static void askingChangesNothing() {
        S.say("WORTH, BEST AIM, HELD, SOONEST only ask: THE WALL stays");
        WallStones x = wallOf(3, 3);
        scatterAll(x, 3);
        x.prop(1, 1);
        x.prop(2, 2);
        x.strength(0, 0, 5);
        x.hit(2, 1, 10);
        x.worth(1, 1, 99);
        x.aim(99, 0);
        x.aim(99, 1);
        x.held(1, 1, 99, 4);
        x.held(1, 1, 4, 3);
        x.soonest(1, 0);
        x.soonest(99, 1);
        int[][] stands = {{1, 1, 1}, {1, 1, 1}, {1, 0, 1}};
        int[][] strength = {{5, 10, 10}, {10, 10, 10}, {10, 0, 10}};
        int[][] propped = {{0, 0, 0}, {0, 1, 0}, {0, 0, 1}};
        for (int cx = 0; cx < 3; cx++) {
            for (int cy = 0; cy < 3; cy++) {
                S.due("stands " + cx + ", " + cy, x.cell(cx, cy, 0), stands[cx][cy]);
                S.due("strength " + cx + ", " + cy, x.cell(cx, cy, 1), strength[cx][cy]);
                S.due("propped " + cx + ", " + cy, x.cell(cx, cy, 2), propped[cx][cy]);
            }
        }
        S.due("weights", x.scatter(1, 1, 0), 3);
    }
}
