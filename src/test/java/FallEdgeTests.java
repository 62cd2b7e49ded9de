/** Promises 3 to 12 and the Terms under them: what is held, cut or none at the edges of WINDS, KINDS and FALLS. */
public final class FallEdgeTests {
    private static final int LOW = -1000000000;
    private static final Due due = new Due();

    public static void main(String[] args) {
        winds();
        sets();
        numbersOfKinds();
        drifts();
        steersNoFartherThanTo0();
        steersAlongTheFarther();
        steersOfHolding();
        steersOfCrabbing();
        steersOfDownwind();
        steersNot();
        boxes();
        layersOfHeights();
        landings();
        landingsBeforeOpening();
        plane();
        halfOfDrift();
        heldEachSecond();
        heldAlongY();
        draws();
        drawsOnlyOpenInLayer0();
        windsWithDraws();
        barredLandings();
        secondsOfFalls();
        means();
        due.end();
    }

    private static TenYards ofAllKinds(int figure, int opens) {
        TenYards x = new TenYards();
        for (int kind = 0; kind < 8; kind++) {
            Due.read(x, "f" + kind + figure + " " + opens + ";");
        }
        return x;
    }

    // ---- airs, fallers

    private static void winds() {
        TenYards x = Due.with("l0+90-90;l9-90+90;");
        due.is("3 EAST of LAYER 0, 90 at most", x.wind(0, false), 90);
        due.is("3 NORTH of LAYER 0, -90 at least", x.wind(0, true), -90);
        due.is("3 EAST of LAYER 9", x.wind(9, false), -90);
        due.is("3 NORTH of LAYER 9", x.wind(9, true), 90);
        for (int layer = 1; layer < 9; layer++) {
            due.is("3 0 at first, EAST of " + layer, x.wind(layer, false), 0);
            due.is("3 0 at first, NORTH of " + layer, x.wind(layer, true), 0);
        }
    }

    private static void sets() {
        int[] first = {0, 400, 2000};
        int[] least = {0, 0, 300};
        int[] most = {30, 900, 3000};
        for (int what = 0; what < 3; what++) {
            TenYards x = new TenYards();
            due.is("4 what it was at first", x.set(what, most[what]), first[what]);
            due.is("4 too much changes nothing", x.set(what, most[what] + 1), -1);
            due.is("4 what it was: the most", x.set(what, least[what]), most[what]);
            due.is("4 too little changes nothing", x.set(what, least[what] - 1), -1);
            due.is("4 what it was: the least", x.set(what, least[what]), least[what]);
            for (int other = 0; other < 3; other++) {
                due.is("4 the others stay", x.count(3 + other), other == what ? least[other] : first[other]);
            }
        }
    }

    private static void numbersOfKinds() {
        int[] falls = {120, 120, 100, 145, 120, 120, 120, 145};
        int[][] sinks = {{16, 20, 13, 21, 16, 14, 18, 31}, {16, 20, 13, 21, 25, 23, 18, 31}};
        int[][] paces = {{40, 0, 34, 44, 20, 30, 40, 0}, {40, 0, 34, 44, 20, 30, 67, 0}};
        for (int end = 0; end < 2; end++) {
            TenYards x = ofAllKinds(9 * end, 20 * end);
            for (int kind = 0; kind < 8; kind++) {
                String of = " of KIND " + kind + ", FIGURE " + 9 * end;
                due.is("5 KIND" + of, x.faller(kind, 0), kind);
                due.is("5 FIGURE" + of, x.faller(kind, 1), 9 * end);
                due.is("5 OPENS" + of, x.faller(kind, 2), 20 * end);
                due.is("5 FALLS" + of, x.faller(kind, 3), falls[kind]);
                due.is("5 SINKS" + of, x.faller(kind, 4), sinks[end][kind]);
                due.is("5 PACE" + of, x.faller(kind, 5), paces[end][kind]);
            }
        }
    }

    private static void drifts() {
        TenYards x = ofAllKinds(3, 0);
        int[] winds = {0, 1, 2, 3, 4, 5, 119, 120};
        int[] light = {0, 1, 2, 3, 5, 6, 148, 150};
        int[] heavy = {0, 0, 1, 2, 3, 4, 95, 96};
        int[] stalled = {0, 0, 0, 1, 1, 2, 47, 48};
        for (int i = 0; i < winds.length; i++) {
            int w = winds[i];
            int[] want = {w, w, light[i], heavy[i], w, w, w, stalled[i]};
            for (int kind = 0; kind < 8; kind++) {
                due.is("6 DRIFT of " + w + ", KIND " + kind, x.drift(kind, w), want[kind]);
                due.is("6 cut toward 0: of " + -w + ", KIND " + kind, x.drift(kind, -w), -want[kind]);
            }
        }
        due.is("6 no WIND above 120", x.drift(2, 121), LOW - 1);
        due.is("6 no WIND below -120", x.drift(2, -121), LOW - 1);
    }

    private static void steersAre(String sentence, TenYards x, int faller, int[] at, int layer, int[] want) {
        String call = "7 " + sentence + ": FALLER " + faller + " at " + at[0] + ", " + at[1] + " in " + layer;
        due.is(call + " along x", x.steers(faller, at[0], at[1], layer, false), want[0]);
        due.is(call + " along y", x.steers(faller, at[0], at[1], layer, true), want[1]);
    }

    private static int[] p(int x, int y) {
        return new int[] {x, y};
    }

    private static void steersNoFartherThanTo0() {
        TenYards x = ofAllKinds(0, 0);
        int[] kinds = {0, 2, 3};
        int[] paces = {40, 34, 44};
        for (int i = 0; i < 3; i++) {
            int pace = paces[i];
            int[] far = {0, 1, pace - 1, pace, pace + 1, 30000};
            for (int place : far) {
                int step = Math.min(place, pace);
                steersAre("no farther than to 0", x, kinds[i], p(place, 0), 0, p(-step, 0));
                steersAre("no farther than to 0", x, kinds[i], p(-place, 0), 0, p(step, 0));
                steersAre("no farther than to 0", x, kinds[i], p(0, place), 0, p(0, -step));
                steersAre("no farther than to 0", x, kinds[i], p(0, -place), 0, p(0, step));
            }
        }
    }

    private static void steersAlongTheFarther() {
        TenYards x = ofAllKinds(0, 0);
        int[] signs = {-1, 1};
        for (int sx : signs) {
            for (int sy : signs) {
                steersAre("x as far as y", x, 0, p(500 * sx, 500 * sy), 0, p(-40 * sx, 0));
                steersAre("x farther", x, 0, p(501 * sx, 500 * sy), 0, p(-40 * sx, 0));
                steersAre("else along y", x, 0, p(500 * sx, 501 * sy), 0, p(0, -40 * sy));
                steersAre("at the corner", x, 0, p(30000 * sx, 30000 * sy), 9, p(-40 * sx, 0));
            }
        }
    }

    private static void steersOfHolding() {
        for (int figure = 0; figure < 10; figure++) {
            TenYards x = Due.with("f4" + figure + " 0;");
            int near = 100 * figure;
            int step = Math.min(20, near + 1);
            steersAre("just 100 FIGURE is not more", x, 0, p(near, near), 0, p(0, 0));
            steersAre("just 100 FIGURE is not more", x, 0, p(-near, -near), 0, p(0, 0));
            steersAre("more along x alone", x, 0, p(near + 1, 0), 0, p(-step, 0));
            steersAre("more along x alone", x, 0, p(-near - 1, near), 0, p(step, 0));
            steersAre("more along y alone", x, 0, p(0, near + 1), 0, p(0, -step));
            steersAre("more along y alone", x, 0, p(near, -near - 1), 0, p(0, step));
            steersAre("as a FALLER: x as far", x, 0, p(-near - 1, near + 1), 0, p(step, 0));
        }
    }

    private static void steersOfCrabbing() {
        TenYards x = Due.with("l1+5-5;l2+5-6;l3-6+5;l4-5+6;f52 0;f50 0;");
        steersAre("where a HOLDING one would not", x, 0, p(200, -200), 2, p(0, 0));
        int[] alongY = {0, 1, 3};
        for (int layer : alongY) {
            steersAre("NORTH no more than EAST: along y", x, 0, p(201, 50), layer, p(0, -30));
            steersAre("NORTH no more than EAST: along y", x, 0, p(-201, -50), layer, p(0, 30));
            steersAre("no farther", x, 0, p(201, 29), layer, p(0, -29));
            steersAre("no farther", x, 0, p(201, 0), layer, p(0, 0));
        }
        int[] alongX = {2, 4};
        for (int layer : alongX) {
            steersAre("NORTH more than EAST: along x", x, 0, p(50, 201), layer, p(-30, 0));
            steersAre("NORTH more than EAST: along x", x, 0, p(-50, -201), layer, p(30, 0));
            steersAre("no farther", x, 0, p(-29, 201), layer, p(29, 0));
            steersAre("no farther", x, 0, p(0, 201), layer, p(0, 0));
        }
        steersAre("FIGURE 0, at the CROSS", x, 1, p(0, 0), 2, p(0, 0));
        steersAre("FIGURE 0, beside it", x, 1, p(1, 0), 2, p(-1, 0));
        steersAre("FIGURE 0, beside it", x, 1, p(0, -1), 1, p(0, 1));
    }

    private static void steersOfDownwind() {
        TenYards x = Due.with("l1+5-5;l2-5+5;l3+5-6;l4-5+6;l5+0+1;l6-1+0;l7-6+5;f69 0;f60 0;g30;");
        int[][] want = {p(0, 0), p(67, 0), p(-67, 0), p(0, -67), p(0, 67), p(0, 67), p(-67, 0), p(-67, 0)};
        int[][] from = {p(0, 0), p(-3, 5), p(29999, -30000)};
        for (int layer = 0; layer < want.length; layer++) {
            for (int[] at : from) {
                steersAre("DOWNWIND the way that WIND goes, none if it is 0", x, 0, at, layer, want[layer]);
            }
        }
        steersAre("FIGURE 0", x, 1, p(0, 0), 1, p(40, 0));
    }

    private static void steersNot() {
        TenYards x = ofAllKinds(9, 0);
        Due.read(x, "l0+9+9;");
        int[] kinds = {1, 7};
        for (int kind : kinds) {
            steersAre("PAPERED, STALLED not", x, kind, p(5000, 0), 0, p(0, 0));
            steersAre("PAPERED, STALLED not", x, kind, p(0, -5000), 0, p(0, 0));
        }
    }

    private static void boxes() {
        String[] corners = {"b-2-3+5+4;", "b+5+4-2-3;", "b-2+4+5-3;", "b+5-3-2+4;"};
        for (String box : corners) {
            TenYards x = Due.with(box);
            int[][] in = {p(-20, -30), p(50, 40), p(-20, 40), p(50, -30), p(0, 0)};
            for (int[] at : in) {
                due.is("8 between both corners, these too: " + box, x.barred(at[0], at[1]), 1);
            }
            int[][] out = {p(-21, 0), p(51, 0), p(0, -31), p(0, 41), p(-21, -31), p(51, 41), p(59, 0)};
            for (int[] at : out) {
                due.is("8 beside: " + box, x.barred(at[0], at[1]), 0);
            }
        }
        TenYards x = Due.with("b-3000+3000-3000+3000;b+3000-3000+3000-3000;b+1+1+1+1;");
        due.is("8 a box of one PLACE at the edge", x.barred(-30000, 30000), 1);
        due.is("8 a box of one PLACE at the edge", x.barred(30000, -30000), 1);
        due.is("8 a box of one PLACE", x.barred(10, 10), 1);
        due.is("8 beside a box of one PLACE", x.barred(10, 11), 0);
        due.is("8 another edge", x.barred(30000, 30000), 0);
        due.is("8 none at first", new TenYards().barred(0, 0), 0);
        due.is("8 beyond the edge", x.barred(30001, -30000), -1);
        due.is("8 beyond the edge", x.barred(-30000, 30001), -1);
    }

    // ---- falls

    private static TenYards windByLayers() {
        TenYards x = new TenYards();
        for (int layer = 0; layer < 10; layer++) {
            Due.read(x, "l" + layer + "+" + (layer + 1) + "-" + (layer + 20) + ";");
        }
        Due.read(x, "a0 2000;f10 0;");
        return x;
    }

    private static void layersOfHeights() {
        TenYards x = windByLayers();
        for (int layer = 1; layer <= 9; layer++) {
            int[] heights = {300 * layer, 300 * layer + 299};
            for (int height : heights) {
                x.set(2, height);
                due.is("11 HEIGHT by 300, cut: " + height, x.at(0, 0, 0, 1, 0), layer + 1);
                due.is("11 HEIGHT by 300, cut: " + height, x.at(0, 0, 0, 1, 1), -layer - 20);
            }
        }
        x.set(2, 3000);
        due.is("11 LAYER 9 at most", x.at(0, 0, 0, 1, 0), 10);
        due.is("11 LAYER 9 at most", x.at(0, 0, 0, 1, 1), -29);
        // HEIGHTS 319, 299: LAYERS 1, 0; 320, 300, 280: 1, 1, 0.
        x.set(2, 319);
        due.is("11 HEIGHT 299 is in LAYER 0", x.at(0, 0, 0, 2, 0), 2 + 1);
        x.set(2, 320);
        due.is("11 HEIGHT 300 is in LAYER 1", x.at(0, 0, 0, 2, 0), 2 + 2);
        due.is("11 HEIGHT 280 is in LAYER 0", x.at(0, 0, 0, 3, 0), 2 + 2 + 1);
    }

    private static void landsAfter(String fallers, int height, int seconds) {
        TenYards x = Due.with(fallers);
        x.set(2, height);
        due.is("9 SECONDS of " + fallers + " from " + height, x.fall(0, 0, 0, 2), seconds);
        due.is("11 not yet LANDED", x.at(0, 0, 0, seconds - 1, 2) > 0 ? 1 : 0, 1);
        due.is("11 LANDED: H 0", x.at(0, 0, 0, seconds, 2), 0);
        due.is("11 H stays 0", x.at(0, 0, 0, seconds + 1, 2), 0);
    }

    private static void landings() {
        landsAfter("f10 0;", 300, 15);
        landsAfter("f10 0;", 301, 16);
        landsAfter("f10 0;", 319, 16);
        landsAfter("f10 0;", 320, 16);
        landsAfter("f10 0;", 321, 17);
        landsAfter("f10 0;", 3000, 150);
        landsAfter("f20 0;", 3000, 231);
        landsAfter("f50 0;", 3000, 215);
        landsAfter("f70 0;", 310, 10);
        landsAfter("f70 0;", 311, 11);
    }

    private static void landingsBeforeOpening() {
        landsAfter("f00 20;", 360, 3);
        landsAfter("f00 20;", 361, 4);
        landsAfter("f20 20;", 300, 3);
        landsAfter("f20 20;", 301, 4);
        landsAfter("f30 20;", 435, 3);
        landsAfter("f30 20;", 436, 4);
        landsAfter("f00 20;", 2400, 20);
        landsAfter("f00 20;", 2401, 21);
        // It opens at HEIGHT 0, at 1, at 16, at 17.
        landsAfter("f00 3;", 360, 3);
        landsAfter("f00 3;", 361, 4);
        landsAfter("f00 3;", 376, 4);
        landsAfter("f00 3;", 377, 5);
        // OPENS 0: it sinks from the first SECOND on, and the PLANE gives it nothing.
        TenYards x = Due.with("f10 0;f10 1;a900 300;");
        due.is("9 OPENS 0: no PLANE", x.fall(0, 0, 0, 0), 0);
        due.is("9 OPENS 1: one SECOND of the PLANE", x.fall(1, 0, 0, 0), 900);
        due.is("11 OPENS 1: one SECOND of FALLS", x.at(1, 0, 0, 1, 2), 180);
        due.is("11 then it SINKS", x.at(1, 0, 0, 2, 2), 160);
    }

    private static void plane() {
        TenYards x = Due.with("f10 20;f10 9;f10 10;f10 11;");
        x.set(2, 3000);
        int[] seconds = {0, 1, 2, 8, 9, 10, 11, 12, 20, 21, 400};
        int[] gone = {0, 400, 760, 2080, 2160, 2200, 2200, 2200, 2200, 2200, 2200};
        for (int i = 0; i < seconds.length; i++) {
            due.is("11 10 less SECONDS that went by, 0 at least: " + seconds[i], x.at(0, 0, 0, seconds[i], 0), gone[i]);
        }
        int[] whole = {2200, 2160, 2200, 2200};
        for (int faller = 0; faller < 4; faller++) {
            due.is("9 the PLANE till it opens", x.fall(faller, 0, 0, 0), whole[faller]);
        }
        int[] planes = {0, 1, 9, 11, 900};
        int[] sums = {0, 1, 45, 11 + 9 + 8 + 7 + 6 + 5 + 4 + 3 + 2 + 1, 4950};
        for (int i = 0; i < planes.length; i++) {
            x.set(1, planes[i]);
            due.is("9 by 10, cut, each SECOND: PLANE " + planes[i], x.fall(0, 0, 0, 0), sums[i]);
        }
    }

    private static void halfOfDrift() {
        int[] winds = {1, 2, 3, 4, 5, 9, 90};
        int[][] half = {{0, 1, 1, 2, 2, 4, 45}, {0, 1, 1, 2, 3, 5, 56}, {0, 0, 1, 1, 2, 3, 36}, {0, 0, 0, 0, 1, 1, 18}};
        int[] kinds = {0, 2, 3, 7};
        for (int i = 0; i < winds.length; i++) {
            for (int k = 0; k < kinds.length; k++) {
                String air = "l6+" + winds[i] + "-" + winds[i] + ";l7-" + winds[i] + "+" + winds[i] + ";a0 2000;f" + kinds[k] + "0 1;";
                TenYards x = Due.with(air);
                due.is("11 half of the DRIFT of EAST: " + air, x.at(0, 0, 0, 1, 0), half[k][i]);
                due.is("11 cut toward 0: " + air, x.at(0, 0, 0, 1, 1), -half[k][i]);
                x.set(2, 2100);
                due.is("11 cut toward 0: " + air, x.at(0, 0, 0, 1, 0), -half[k][i]);
                due.is("11 half of that of NORTH: " + air, x.at(0, 0, 0, 1, 1), half[k][i]);
            }
        }
    }

    private static void heldEachSecond() {
        // Two SECONDS outward by 50 in LAYER 1, then 14 back by 10.
        TenYards x = Due.with("l1+50+0;l0-10+0;f10 0;a0 320;");
        due.is("9 held to 30000 in each SECOND", x.fall(0, 29990, 0, 0), 30000 - 140);
        due.is("11 held to 30000", x.at(0, 29990, 0, 1, 0), 30000);
        due.is("11 held to 30000", x.at(0, 29949, 0, 1, 0), 29999);
        due.is("11 held to 30000", x.at(0, 29951, 0, 1, 0), 30000);
        TenYards w = Due.with("l1-50+0;l0+10+0;f10 0;a0 320;");
        due.is("9 held to -30000 in each SECOND", w.fall(0, -29990, 0, 0), -30000 + 140);
        due.is("11 held to -30000", w.at(0, -29990, 0, 1, 0), -30000);
        due.is("11 held to -30000", w.at(0, -29949, 0, 1, 0), -29999);
        due.is("11 held to -30000", w.at(0, -29951, 0, 1, 0), -30000);
        // Before it opens, too: one SECOND of the PLANE, then 10 of sinking back by 10 (HEIGHTS 200 .. 20).
        TenYards plane = Due.with("l0-10+0;f10 1;a900 320;");
        due.is("9 held before it opens", plane.fall(0, 30000, 0, 0), 30000 - 100);
    }

    private static void heldAlongY() {
        TenYards x = Due.with("l1+0+50;l0+0-10;f10 0;a0 320;");
        due.is("9 y is held in each SECOND", x.fall(0, 0, 29990, 1), 30000 - 140);
        due.is("11 y is held to 30000", x.at(0, 0, 29951, 1, 1), 30000);
        TenYards w = Due.with("l1+0-50;l0+0+10;f10 0;a0 320;");
        due.is("9 y is held in each SECOND", w.fall(0, 0, -29990, 1), -30000 + 140);
        due.is("11 y is held to -30000", w.at(0, 0, -29951, 1, 1), -30000);
        due.is("9 OFF at the corner", x.fall(0, -30000, 30000, 3), 60000 - 140);
        due.is("9 OFF, the most", Due.with("f10 0;").fall(0, -30000, -30000, 3), 60000);
    }

    /** PAPERED ones that open at HEIGHT 20: they land where their only DRAW puts them. */
    private static TenYards oneDraw(int gust) {
        return Due.with("a0 380;f10 3;g" + gust + ";");
    }

    private static void draws() {
        int[] gusts = {1, 7, 29, 30};
        for (int gust : gusts) {
            TenYards x = oneDraw(gust);
            for (int i = 0; i < Draws.FIRST.length; i++) {
                due.is("10 a DRAW of seed " + (i - 1), x.fallBy(0, 0, 0, i - 1, 0), Draws.puff(Draws.FIRST[i], gust));
            }
            due.is("9 z 1, if no seed is told", x.fall(0, 0, 0, 0), Draws.puff(16838, gust));
        }
        TenYards x = oneDraw(30);
        due.is("10 below twice GUST and 1, less GUST", x.fallBy(0, 0, 0, 1, 0), -28);
        due.is("10 z without its sign's bit", x.fallBy(0, 0, 0, 2, 0), 24);
        due.is("10 the least", x.fallBy(0, 0, 0, 0, 0), -30);
        due.is("10 z wraps around as an int", x.fallBy(0, 0, 0, Integer.MAX_VALUE, 0), -22);
        due.is("10 z wraps around as an int", x.fallBy(0, 0, 0, Integer.MIN_VALUE, 0), -30);
        x.set(0, 0);
        due.is("10 no GUST, no DRAW", x.fallBy(0, 0, 0, 2, 0), 0);
    }

    private static void drawsOnlyOpenInLayer0() {
        // HEIGHT 340, 320, 300 are in LAYER 1: the first DRAW comes with the fourth SECOND.
        TenYards x = Due.with("f10 0;g30;a0 340;");
        int at = 0;
        for (int n = 0; n <= 13; n++) {
            due.is("11 a DRAW in LAYER 0, at " + (n + 3), x.at(0, 0, 0, n + 3, 0), at);
            at += Draws.puff(Draws.OF_ONE[n], 30);
        }
        due.is("9 all of 14", x.fall(0, 0, 0, 0), -42);
        // From 300 it opens at 60, after one SECOND in LAYER 0: three DRAWS are left.
        TenYards late = Due.with("f10 2;g30;a0 300;");
        due.is("11 none before it opens", late.at(0, 0, 0, 2, 0), 0);
        due.is("9 the first DRAW once open", late.fall(0, 0, 0, 0), -28 - 6 + 18);
        due.is("9 a DRAW moves nothing north", late.fall(0, 0, 0, 1), 0);
    }

    private static void windsWithDraws() {
        // From 310 a LIGHT one (FALLS 100) opens at 10, at x 0 + 56 + 56, a STALLED one (145) at 20, at x 0 + 18. The
        // greatest DRAW (that of z 21) on the greatest WIND is 120: their DRIFTS are 150 and 48; LIGHT ones STEER by 34.
        TenYards x = Due.with("l0+90+0;a0 310;f20 3;f70 2;g30;");
        due.is("10 the greatest WIND, LIGHT", x.fallBy(0, 0, 0, 21, 0), 112 + 150 - 34);
        due.is("10 the greatest WIND, STALLED", x.fallBy(1, 0, 0, 21, 0), 18 + 48);
        Due.read(x, "l0-90+0;");
        due.is("10 the least WIND, LIGHT", x.fallBy(0, 0, 0, 0, 0), -112 - 150 + 34);
        due.is("10 the least WIND, STALLED", x.fallBy(1, 0, 0, 0, 0), -18 - 48);
        // A CRABBING one STEERS by the WIND with the DRAW in it: NORTH 4, EAST what is drawn; 22 SECONDS by 14 feet.
        TenYards c = Due.with("l0+0+4;a0 300;f50 0;g7;");
        int alongX = 0;
        int z = 1;
        for (int i = 0; i < 21; i++) {
            z = z * 1103515245 + 12345;
            alongX += Math.abs(Draws.puff(z >>> 16 & 0x7fff, 7)) < 4 ? 1 : 0;
        }
        due.is("10 STEERS by that WIND", c.fall(0, 3000, 3000, 0), 3000 + Draws.puffs(1, 7, 21) - 30 * alongX);
        due.is("10 STEERS by that WIND", c.fall(0, 3000, 3000, 1), 3000 - 30 + 21 * 4 - 30 * (21 - alongX));
    }

    private static void barredLandings() {
        TenYards x = Due.with("f10 0;b+1+1+2+2;a0 300;");
        int[][] in = {p(10, 10), p(20, 20), p(10, 20), p(15, 15)};
        for (int[] at : in) {
            due.is("9 BARRED", x.fall(0, at[0], at[1], 4), 1);
            due.is("10 BARRED", x.fallBy(0, at[0], at[1], 5, 4), 1);
        }
        due.is("9 not BARRED", x.fall(0, 9, 10, 4), 0);
        due.is("9 not BARRED", x.fall(0, 20, 21, 4), 0);
        // It is the landing that counts, not where it left.
        TenYards w = Due.with("l0+1+0;l1+1+0;f10 0;b+1+1+2+2;a0 300;");
        due.is("9 lands BARRED", w.fall(0, -5, 10, 4), 1);
        due.is("9 leaves BARRED", w.fall(0, 10, 10, 4), 0);
    }

    private static void secondsOfFalls() {
        TenYards x = Due.with("l1+3-4;f10 0;g30;a400 330;");
        due.is("11 0 SECONDS: x", x.at(0, -7, 9, 0, 0), -7);
        due.is("11 0 SECONDS: y", x.at(0, -7, 9, 0, 1), 9);
        due.is("11 0 SECONDS: the EXIT HEIGHT", x.at(0, -7, 9, 0, 2), 330);
        due.is("11 y of -30000", x.at(0, 0, -30000, 0, 1), -30000);
        due.is("11 y of 30000", x.at(0, 0, 30000, 0, 1), 30000);
        // 17 SECONDS, by z 1: LAYER 1 twice, then 15 DRAWS.
        due.is("11 z 1", x.at(0, 0, 0, 3, 0), 3 + 3 - 28);
        int[] late = {17, 18, 399, 400};
        for (int n : late) {
            due.is("11 as it LANDED: x at " + n, x.at(0, 0, 0, n, 0), x.fall(0, 0, 0, 0));
            due.is("11 as it LANDED: y at " + n, x.at(0, 0, 0, n, 1), -8);
            due.is("11 as it LANDED: H at " + n, x.at(0, 0, 0, n, 2), 0);
        }
        due.is("11 the last SECOND aloft", x.at(0, 0, 0, 16, 2), 10);
    }

    private static void means() {
        // It opens at 60 and lands after 3 SECONDS with the DRAWS -28, -6, 18.
        TenYards x = Due.with("f10 2;g30;a900 300;");
        due.is("12 cut", x.mean(0, 0, 0, false), -16 / 3);
        due.is("12 from where it was as it opened", x.mean(0, 0, 500, true), 0);
        // FALLER from 361 opens at 1: one SECOND; from 360 it lands first.
        TenYards y = Due.with("l0+7-8;f00 3;f00 20;a0 361;");
        due.is("12 one SECOND", y.mean(0, 5000, 0, false), 7);
        due.is("12 one SECOND", y.mean(0, 0, 5000, true), -8);
        due.is("12 0, if it landed first", y.mean(1, 0, 0, false), 0);
        y.set(2, 360);
        due.is("12 0, if it landed as it opened: east", y.mean(0, 0, 0, false), 0);
        due.is("12 0, if it landed as it opened: north", y.mean(0, 0, 0, true), 0);
        // All KINDS as if their STEERS were none: no WIND, nothing at all.
        TenYards all = ofAllKinds(3, 0);
        for (int kind = 0; kind < 8; kind++) {
            due.is("12 as if its STEERS were none", all.mean(kind, 5000, -300, false), 0);
            due.is("12 as if its STEERS were none", all.mean(kind, -300, 5000, true), 0);
        }
        // By 10 in 16 SECONDS: less than 1 a SECOND is 0, on either side.
        TenYards w = Due.with("l1-5+5;f10 0;a0 320;");
        due.is("12 cut toward 0", w.mean(0, 0, 0, false), 0);
        due.is("12 cut toward 0", w.mean(0, 0, 0, true), 0);
        TenYards v = Due.with("l1-90+90;f10 0;a0 320;");
        due.is("12 cut toward 0: -180 by 16", v.mean(0, 0, 0, false), -11);
        due.is("12 cut toward 0: 180 by 16", v.mean(0, 0, 0, true), 11);
        due.is("12 held at the edge: y", v.mean(0, 0, 30000, true), 0);
        due.is("12 held at the edge: y", v.mean(0, 0, 29900, true), 100 / 16);
        due.is("12 held at the edge: x", v.mean(0, -29900, 0, false), -100 / 16);
    }
}
