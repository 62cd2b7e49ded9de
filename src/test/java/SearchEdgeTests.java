/** Promises 13 to 20: first and last of what is looked through, which of several counts, and just within. */
public final class SearchEdgeTests {
    private static final int LOW = -1000000000;
    private static final Due due = new Due();

    public static void main(String[] args) {
        exitsAtTheEnds();
        exitsOfSeveral();
        exitsByDraws();
        loadsWithin();
        loadsHeld();
        loadsOfOneAndFive();
        bestLoadsOfSeveral();
        bestLoadsAtTheEnds();
        ordersOfEachSize();
        ordersOfSeveral();
        ordersHeld();
        conesAtTheEnds();
        conesOnceOpen();
        waysOfSteering();
        steeringOfSeveral();
        steeringFromOpeningOn();
        lastHeights();
        safeAtTheEnds();
        safeOfSeveral();
        due.end();
    }

    // ---- exits, loads

    /** PAPERED ones that the WIND takes so far in 15 SECONDS, one of them in LAYER 1. */
    private static TenYards carried(int east1, int east0, int north1, int north0) {
        return Due.with("l1" + signed(east1) + signed(north1) + ";l0" + signed(east0) + signed(north0) + ";a0 300;f10 0;");
    }

    private static String signed(int n) {
        return n < 0 ? String.valueOf(n) : "+" + n;
    }

    private static void exitIs(String sentence, TenYards x, int wantX, int wantY, int wantOff) {
        due.is("13 " + sentence + ": x", x.exit(0, 0), wantX);
        due.is("13 " + sentence + ": y", x.exit(0, 1), wantY);
        due.is("13 " + sentence + ": OFF", x.exit(0, 2), wantOff);
    }

    private static void exitsAtTheEnds() {
        int[] signs = {-1, 1};
        for (int sx : signs) {
            for (int sy : signs) {
                // 11250 along each: ten thousand of it can be made good, and no more.
                TenYards far = new TenYards();
                for (int layer = 0; layer < 10; layer++) {
                    Due.read(far, "l" + layer + signed(75 * sx) + signed(75 * sy) + ";");
                }
                Due.read(far, "a0 3000;f10 0;");
                exitIs("10000 and -10000 too", far, -10000 * sx, -10000 * sy, 2500);
                // 9000 and 10000 along them: the last steps of 1000.
                TenYards near = new TenYards();
                for (int layer = 0; layer < 10; layer++) {
                    Due.read(near, "l" + layer + signed(60 * sx) + signed(60 * sy) + ";");
                }
                Due.read(near, "a0 3000;f10 0;");
                exitIs("by 1000", near, -9000 * sx, -9000 * sy, 0);
            }
        }
    }

    private static void exitsOfSeveral() {
        // 500 along x, 500 along y: two places are as near along each.
        exitIs("of several the least x, then y", carried(10, 35, 10, 35), -1000, -1000, 1000);
        exitIs("of several the least x, then y", carried(-10, -35, -10, -35), 0, 0, 1000);
        exitIs("of several the least x", carried(10, 35, 0, 0), -1000, 0, 500);
        exitIs("of several the least y", carried(0, 0, -10, -35), 0, 0, 500);
        // 499 and 501: the nearer one counts.
        exitIs("the nearer one", carried(9, 35, 9, 35), 0, 0, 998);
        exitIs("the nearer one", carried(11, 35, 11, 35), -1000, -1000, 998);
        // A FALLER steers 4960 home (124 SECONDS): of x and y together no more than that the least x is -4000, then
        // y 0; OFF is 40 from -5000, so that doesn't count.
        TenYards x = Due.with("f00 0;a0 1984;");
        exitIs("least x ahead of least y", x, -4000, 0, 0);
        // 5040: -5000, where y must be 0.
        x.set(2, 2001);
        exitIs("least x ahead of least y", x, -5000, 0, 0);
        // BARRED or not doesn't count here.
        Due.read(x, "b-3000-3000+3000+3000;");
        exitIs("BARRED ones too", x, -5000, 0, 0);
    }

    private static void exitsByDraws() {
        TenYards x = Due.with("f10 0;g30;a0 300;");
        exitIs("z 1", x, 0, 0, 42);
    }

    private static void loadsWithin() {
        TenYards x = Due.with("f10 0;b+20+0+20+0;a100 300;");
        Due.bytes(x, 0, 0, 0, 0);
        // They land where they leave: 0, 100, 200 (BARRED); the last with GAP 3: 0, 300, 600.
        due.is("14 OFF no more than n", x.load(0, 0, 0, 3, 600), 3);
        due.is("14 OFF more than n", x.load(0, 0, 0, 3, 599), 2);
        due.is("14 OFF more than n", x.load(0, 0, 0, 3, 299), 1);
        due.is("14 n 0", x.load(0, 0, 0, 3, 0), 1);
        due.is("14 n 0, none", x.load(0, 0, 1, 3, 0), 0);
        due.is("14 BARRED ones not", x.load(0, 0, 0, 1, 600), 2);
        due.is("14 beside the box", x.load(0, 1, 0, 1, 600), 3);
        due.is("14 n 60000", x.load(0, 30000, -30000, 1, 60000), 3);
        due.is("14 n 59999", x.load(0, 30000, -30000, 1, 59999), 0);
        // A GAP of 20 SECONDS.
        due.is("14 GAP 20", x.load(0, 0, 0, 20, 4000), 3);
        due.is("14 GAP 20", x.load(0, 0, 0, 20, 3999), 2);
    }

    private static void loadsHeld() {
        // 150 west in 15 SECONDS: from 29900, and from 30000 (held) for those behind.
        TenYards x = carried(-10, -10, 0, 0);
        x.set(1, 100);
        Due.bytes(x, 0, 0, 0, 0);
        due.is("14 held as above", x.load(0, 29900, 0, 3, 29850), 3);
        due.is("14 held as above", x.load(0, 29900, 0, 3, 29849), 1);
        due.is("14 just not held", x.load(0, 29400, 0, 3, 29849), 2);
        due.is("14 just not held", x.load(0, 29400, 0, 3, 29850), 3);
        x.set(1, 900);
        // From -30000, -12000 and 6000; the first one is held there all the way down.
        due.is("14 held all the way", x.load(0, -30000, 0, 20, 30000), 3);
        due.is("14 held all the way", x.load(0, -30000, 0, 20, 29999), 2);
        due.is("14 held all the way", x.load(0, -30000, 0, 20, 12149), 1);
        due.is("14 held all the way", x.load(0, -30000, 0, 20, 5849), 0);
    }

    private static void loadsOfOneAndFive() {
        TenYards x = Due.with("f10 0;f00 0;a100 300;");
        Due.bytes(x, 0, 0);
        due.is("14 one of them", x.load(0, 0, 0, 1, 0), 1);
        Due.bytes(x, 0, 0, 0, 0, 0, 0);
        due.is("14 five of them", x.load(0, 0, 0, 1, 400), 5);
        due.is("14 five of them", x.load(0, 0, 0, 1, 399), 4);
        Due.bytes(x, 0, 1, 0, 1, 0, 1);
        // FALLER 1 comes home from 760: 0, then 100, 0, 300, 0.
        due.is("14 each as its own KIND", x.load(0, 0, 0, 1, 99), 3);
        due.is("14 each as its own KIND", x.load(0, 0, 0, 1, 100), 4);
    }

    private static void bestLoadIs(String sentence, TenYards x, int y, int n, int[] want) {
        due.is("15 " + sentence + ": x", x.bestLoad(0, y, n, 0), want[0]);
        due.is("15 " + sentence + ": GAP", x.bestLoad(0, y, n, 1), want[1]);
        due.is("15 " + sentence + ": how many", x.bestLoad(0, y, n, 2), want[2]);
    }

    private static void bestLoadsOfSeveral() {
        TenYards x = Due.with("f10 0;a500 300;");
        Due.bytes(x, 0, 0, 0);
        // Two, 500 GAP apart: within 500 from -1000 (with GAPS of 1: one of them; of 2: one), from 0 with GAP 1 both.
        bestLoadIs("the most", x, 0, 500, new int[] {0, 1, 2});
        // Within 1000: GAP 1 from -1000 both (-1000, -500).
        bestLoadIs("of several the least GAP, then x", x, 0, 1000, new int[] {-1000, 1, 2});
        // Within 0, GAP 1: only the first can be there from 0, none from -500; GAP 2: from -1000 the second can.
        bestLoadIs("the least GAP ahead of the least x", x, 0, 0, new int[] {0, 1, 1});
        bestLoadIs("none at all: the first", x, 1, 0, new int[] {-10000, 1, 0});
        bestLoadIs("all: the first", x, 0, 60000, new int[] {-10000, 1, 2});
        Due.read(x, "b-3000-3000+3000+3000;");
        bestLoadIs("all BARRED: the first", x, 0, 60000, new int[] {-10000, 1, 0});
    }

    private static void bestLoadsAtTheEnds() {
        // The second of two lands GAP times 100 further; a box leaves x at 1000 alone, so the last GAP, from 0.
        TenYards x = Due.with("f10 0;a100 300;b+1-3000+99+3000;b-3000-3000-1+3000;");
        Due.bytes(x, 0, 0, 0);
        bestLoadIs("GAP 10", x, 0, 1000, new int[] {0, 10, 2});
        x.set(1, 90);
        // Now GAP 10 is 900: no GAP does it within 1000, only the first one from 0 or from 1000.
        bestLoadIs("no GAP of 11 or more", x, 0, 1080, new int[] {0, 1, 1});
        // Only the last x: 10000.
        TenYards last = Due.with("f10 0;a0 300;b-3000-3000+999+3000;");
        Due.bytes(last, 0, 0);
        bestLoadIs("x 10000", last, 0, 10000, new int[] {10000, 1, 1});
        bestLoadIs("x 10000, OFF more", last, 0, 9999, new int[] {-10000, 1, 0});
        TenYards first = Due.with("f10 0;a0 300;b-999-3000+3000+3000;");
        Due.bytes(first, 0, 0);
        bestLoadIs("x -10000", first, 0, 10000, new int[] {-10000, 1, 1});
        bestLoadIs("y told", last, -30000, 40000, new int[] {10000, 1, 1});
        bestLoadIs("y told", last, 30000, 39999, new int[] {-10000, 1, 0});
    }

    /** They come home by 816, 760, 660, 380 and 0 and leave from 0, 230, .. 920: FALLERS 4, 3, 2, 1, 0 it must be. */
    private static void ordersOfEachSize() {
        for (int i = 0; i < 120; i++) {
            int[] row = permutation(i);
            TenYards x = Due.with("a230 300;f20 0;f00 0;f30 0;f40 0;f10 0;");
            Due.bytes(x, 0, row);
            int digits = 0;
            for (int turn = 4; turn >= 0; turn--) {
                digits = digits * 10 + placeOf(row, 4 - turn);
            }
            due.is("16 of all orders of five", x.order(0, 0, 0, 1, 0), digits);
            due.is("16 the least sum", x.order(0, 0, 0, 1, 1), 104);
        }
        TenYards x = Due.with("a230 300;f20 0;f00 0;f30 0;f40 0;f10 0;");
        Due.bytes(x, 0, 3);
        due.is("16 one of them", x.order(0, 381, 0, 20, 0), 0);
        due.is("16 one of them", x.order(0, 381, 0, 20, 1), 1);
        Due.bytes(x, 0, 3, 4);
        due.is("16 two of them", x.order(0, 0, 0, 1, 0), 1);
        due.is("16 two of them", x.order(0, 0, 0, 1, 1), 0);
        Due.bytes(x, 0, 4, 3);
        due.is("16 two of them", x.order(0, 0, 0, 1, 0), 10);
        Due.bytes(x, 0, 2, 4, 3);
        due.is("16 three of them", x.order(0, 0, 0, 1, 0), 21);
        Due.bytes(x, 0, 3, 1, 4, 2);
        // From 0, 230, 460, 690: FALLERS 4, 3, 2, 1, which stand at 2, 0, 3, 1.
        due.is("16 four of them", x.order(0, 0, 0, 1, 0), 1302);
    }

    private static int[] permutation(int n) {
        java.util.List<Integer> left = new java.util.ArrayList<>(java.util.List.of(0, 1, 2, 3, 4));
        int[] row = new int[5];
        for (int i = 0; i < 5; i++) {
            row[i] = left.remove(n % left.size());
            n /= 5 - i;
        }
        return row;
    }

    private static int placeOf(int[] row, int faller) {
        for (int place = 0; place < row.length; place++) {
            if (row[place] == faller) {
                return place;
            }
        }
        return -1;
    }

    private static void ordersOfSeveral() {
        TenYards x = Due.with("f10 0;f10 0;f00 0;a100 300;");
        int[][] rows = {{0}, {0, 1}, {0, 1, 0}, {1, 1, 0, 0}, {0, 1, 0, 1, 0}};
        int[] digits = {0, 10, 210, 3210, 43210};
        for (int i = 0; i < rows.length; i++) {
            Due.bytes(x, 0, rows[i]);
            due.is("16 of several the first by places", x.order(0, 0, 0, 1, 0), digits[i]);
        }
        // From 0, 100, 200 with one that comes home: it saves most from 200, and both others are as good there.
        Due.bytes(x, 0, 2, 0, 1);
        due.is("16 of several the first by places", x.order(0, 0, 0, 1, 0), 21);
        due.is("16 the sum", x.order(0, 0, 0, 1, 1), 100);
        Due.bytes(x, 0, 0, 2, 1);
        due.is("16 of several the first by places", x.order(0, 0, 0, 1, 0), 120);
        // PLANE 0: all leave from one place.
        x.set(1, 0);
        due.is("16 all from one place", x.order(0, 500, 0, 20, 0), 210);
        due.is("16 all from one place", x.order(0, 500, 0, 20, 1), 1000);
        // BARRED or not doesn't count here.
        Due.read(x, "b-3000-3000+3000+3000;");
        due.is("16 BARRED ones too", x.order(0, 500, 0, 20, 1), 1000);
    }

    private static void ordersHeld() {
        TenYards x = carried(-10, -10, 0, 0);
        x.set(1, 900);
        Due.bytes(x, 0, 0, 0, 0);
        due.is("16 held as above", x.order(0, 29500, 0, 20, 1), 29350 + 29850 + 29850);
        due.is("16 y", x.order(0, 29500, -30000, 20, 1), 29350 + 29850 + 29850 + 90000);
        due.is("16 by z 1", orderByDraws(), 42 + 42);
    }

    private static int orderByDraws() {
        TenYards x = Due.with("f10 0;g30;a0 300;");
        Due.bytes(x, 0, 0, 0);
        return x.order(0, 0, 0, 1, 1);
    }

    // ---- what can still be had

    private static void conesAtTheEnds() {
        TenYards x = Due.with("f10 20;f70 3;");
        for (int faller = 0; faller < 2; faller++) {
            due.is("17 -5000 .. 5000, all", x.cone(faller, 1, 10000), 441);
            due.is("17 all but the four corners", x.cone(faller, 1, 9999), 437);
            due.is("17 all but the corners", x.cone(faller, 3000, 9500), 437);
            due.is("17 all but those and the next", x.cone(faller, 3000, 9499), 441 - 12);
            due.is("17 OFF no more than n", x.cone(faller, 300, 500), 5);
            due.is("17 OFF more than n", x.cone(faller, 300, 499), 1);
            due.is("17 n 0", x.cone(faller, 300, 0), 1);
            due.is("17 n 60000", x.cone(faller, 300, 60000), 441);
        }
    }

    private static void conesOnceOpen() {
        // PAPERED: HEIGHTS 1 .. 20 are one SECOND, 21 two; by OPENS it would be falling still.
        TenYards x = Due.with("l0+50+0;f10 20;a900 3000;");
        due.is("17 HEIGHT 1: one SECOND", x.cone(0, 1, 50), 1);
        due.is("17 HEIGHT 1: one SECOND", x.cone(0, 1, 49), 0);
        due.is("17 HEIGHT 20: one SECOND", x.cone(0, 20, 50), 1);
        due.is("17 HEIGHT 21: two", x.cone(0, 21, 50), 0);
        due.is("17 HEIGHT 21: two", x.cone(0, 21, 100), 1);
        // 299: 15 SECONDS in LAYER 0, 750 (from -500 250, from -1000 250); 300: 14 of them, 700 (200).
        due.is("17 HEIGHT 299", x.cone(0, 299, 249), 0);
        due.is("17 HEIGHT 299", x.cone(0, 299, 250), 2);
        due.is("17 HEIGHT 300 is in LAYER 1", x.cone(0, 300, 200), 1);
        due.is("17 HEIGHT 300 is in LAYER 1", x.cone(0, 300, 199), 0);
        // HEIGHT 3000 is in LAYER 9, and so are 2980 .. 2700: 16 SECONDS by 50 make 800.
        TenYards high = Due.with("l9+0-50;f10 0;");
        due.is("17 HEIGHT 3000", high.cone(0, 3000, 199), 0);
        due.is("17 HEIGHT 3000", high.cone(0, 3000, 200), 1);
        // The first DRAW of z 1 is -28; seed by seed the same for all places.
        TenYards gusty = Due.with("f10 0;g30;b-3000-3000+3000+3000;");
        due.is("17 z 1", gusty.cone(0, 20, 27), 0);
        due.is("17 z 1, BARRED ones too", gusty.cone(0, 20, 28), 1);
    }

    private static void steeringIs(String sentence, TenYards x, int px, int py, int way, int off) {
        due.is("18 " + sentence + ": way from " + px + ", " + py, x.steering(0, px, py, 0), way);
        due.is("18 " + sentence + ": OFF from " + px + ", " + py, x.steering(0, px, py, 1), off);
    }

    private static void waysOfSteering() {
        // 20 SECONDS by 40: 800 along each part.
        TenYards x = Due.with("f00 0;a0 320;");
        int[] east = {0, 1, -1, 0, 0, 1, -1, 1, -1};
        int[] north = {0, 0, 0, 1, -1, 1, 1, -1, -1};
        for (int way = 0; way < 9; way++) {
            steeringIs("way " + way, x, -800 * east[way], -800 * north[way], way, 0);
            steeringIs("beyond, way " + way, x, -801 * east[way], -801 * north[way], way,
                    Math.abs(east[way]) + Math.abs(north[way]));
        }
        steeringIs("from the edge", x, 30000, -30000, 6, 58400);
        steeringIs("from the edge", x, -30000, 30000, 7, 58400);
        // In place of its STEERS: a HOLDING one would not steer here (240 in 12 SECONDS), a CRABBING one along y.
        steeringIs("in place of its STEERS", Due.with("f49 0;a0 300;"), -240, 0, 1, 0);
        steeringIs("in place of its STEERS", Due.with("f50 0;a0 300;"), 22 * 30, 0, 2, 0);
        // A DOWNWIND one of FIGURE 9: 17 SECONDS (18 feet) by 67, against the WIND.
        steeringIs("by PACE", Due.with("f69 0;a0 300;"), 0, 17 * 67, 4, 0);
    }

    private static void steeringOfSeveral() {
        TenYards x = Due.with("f00 0;a0 320;");
        steeringIs("none and west", x, 400, 0, 0, 400);
        steeringIs("west is nearer", x, 401, 0, 2, 399);
        steeringIs("none and north", x, 0, -400, 0, 400);
        steeringIs("east and north east", x, -800, -400, 1, 400);
        steeringIs("west and north west", x, 800, -400, 2, 400);
        steeringIs("north and north east", x, -400, -800, 3, 400);
        steeringIs("south and south west", x, 400, 800, 4, 400);
        steeringIs("none, east, north and north east", x, -400, -400, 0, 800);
        steeringIs("PACE 0: all of them", Due.with("f19 0;"), 700, 700, 0, 1400);
        steeringIs("PACE 0: all of them", Due.with("f79 0;"), -700, 700, 0, 1400);
    }

    private static void steeringFromOpeningOn() {
        // One SECOND of the PLANE and of half the WIND (LAYER 1), 12 of sinking from 180.
        TenYards x = Due.with("l1+9+0;f00 1;a100 300;");
        steeringIs("from opening on", x, -104 - 480, 0, 1, 0);
        steeringIs("from opening on", x, -104, 480, 4, 0);
        steeringIs("it lands before it opens", Due.with("f00 20;a100 300;"), 0, 0, 0, 100 + 90 + 80);
        steeringIs("it lands as it opens", Due.with("f00 3;a0 360;"), 40, 40, 0, 80);
        steeringIs("one SECOND open", Due.with("f00 3;a0 361;"), 40, 40, 8, 0);
        steeringIs("z 1", Due.with("f10 0;g30;a0 300;"), 0, 0, 0, 42);
        // Held at the edge in each SECOND: 2 outward by 90 in LAYER 1, then 18 back by 40 along each part.
        TenYards edge = Due.with("l1+90+90;f00 0;a0 320;");
        steeringIs("held at the edge", edge, 30000, 30000, 8, 2 * (30000 - 18 * 40));
    }

    private static void lastIs(int kind, int height, int want) {
        TenYards x = Due.with("f" + kind + "0 7;");
        x.set(2, height);
        due.is("19 open at H 200 or more: KIND " + kind + " from " + height, x.last(0), want);
    }

    private static void lastHeights() {
        lastIs(0, 2000, 15);
        lastIs(0, 1999, 14);
        lastIs(0, 300, 0);
        lastIs(0, 319, 0);
        lastIs(0, 320, 1);
        lastIs(0, 2599, 19);
        lastIs(0, 2600, 20);
        lastIs(0, 3000, 20);
        lastIs(2, 300, 1);
        lastIs(2, 399, 1);
        lastIs(2, 400, 2);
        lastIs(2, 2199, 19);
        lastIs(2, 2200, 20);
        lastIs(2, 2300, 20);
        lastIs(3, 344, 0);
        lastIs(3, 345, 1);
        lastIs(3, 3000, 19);
        lastIs(7, 3000, 19);
        int[] asFaller = {1, 4, 5, 6};
        for (int kind : asFaller) {
            lastIs(kind, 2000, 15);
            lastIs(kind, 1999, 14);
        }
        // Its own OPENS do not count.
        for (int opens = 0; opens <= 20; opens++) {
            due.is("19 whatever its OPENS", Due.with("f00 " + opens + ";").last(0), 15);
        }
    }

    private static void safeIs(String sentence, TenYards x, int px, int py, int wantX, int wantY) {
        due.is("20 " + sentence + ": x for " + px + ", " + py, x.safe(px, py, 0), wantX);
        due.is("20 " + sentence + ": y for " + px + ", " + py, x.safe(px, py, 1), wantY);
    }

    private static void safeAtTheEnds() {
        TenYards x = new TenYards();
        int[] ends = {-30000, 30000};
        for (int px : ends) {
            for (int py : ends) {
                safeIs("-3000 .. 3000 yards", x, px, py, px / 10, py / 10);
            }
        }
        safeIs("whole hundreds of yards", x, -29501, 29501, -3000, 3000);
        safeIs("whole hundreds of yards", x, -29499, 29499, -2900, 2900);
        // All is BARRED but one corner.
        safeIs("only there", Due.with("b-3000-3000+3000+2999;b-3000+2999+2999+3000;"), -30000, -30000, 3000, 3000);
        safeIs("only there", Due.with("b-3000-2999+3000+3000;b-2999-3000+3000-2999;"), 30000, 30000, -3000, -3000);
        safeIs("only there", Due.with("b-3000-2999+3000+3000;b-3000-3000+2999-2999;"), -30000, 30000, 3000, -3000);
        safeIs("only there", Due.with("b-3000-3000+3000+2999;b-2999+2999+3000+3000;"), 30000, -30000, -3000, 3000);
        safeIs("there is none", Due.with("b-3000-3000+3000+3000;"), 0, 0, LOW - 4, LOW - 4);
        safeIs("beside a box", Due.with("b-3000-3000+0+3000;"), -30000, 70, 100, 0);
    }

    private static void safeOfSeveral() {
        TenYards x = new TenYards();
        safeIs("of several the least x, then y", x, 500, 500, 0, 0);
        safeIs("of several the least x, then y", x, -500, -500, -100, -100);
        safeIs("the nearer one", x, 501, 499, 100, 0);
        safeIs("the nearer one", x, 499, 501, 0, 100);
        Due.read(x, "b+100+100+100+100;");
        safeIs("not BARRED, of several the least x", x, 1000, 1000, 0, 100);
        safeIs("not BARRED, of several the least y", x, 1001, 1000, 200, 100);
        safeIs("not BARRED, the nearer one", x, 1000, 1001, 100, 200);
        Due.read(x, "b+0+100+0+100;");
        safeIs("of several the least x, then y", x, 1000, 1000, 100, 0);
        // OFF of the difference: both parts together.
        Due.read(x, "b+100+0+100+200;b+0+50+0+150;b+200+50+200+150;");
        safeIs("both parts together", x, 1000, 1000, -100, 100);
    }
}
