/** For each promise its ordinary answers, its edges and its refusals, worked out by hand from the document. */
public final class PromiseTests {
    private static final int LOW = -1000000000;
    private static final Due due = new Due();

    public static void main(String[] args) {
        newObject();
        airCounts();
        airFaultsOfForm();
        airFaultsOfNumbers();
        airTakesAllOrNothing();
        winds();
        sets();
        fallers();
        drifts();
        steersOfFallers();
        steersOfOthers();
        barredBoxes();
        falls();
        fallsBeforeOpening();
        fallsBySeeds();
        secondsOfFalls();
        means();
        exits();
        loads();
        bestLoads();
        orders();
        cones();
        steerings();
        lasts();
        safes();
        withins();
        stops();
        knews();
        twos();
        habits();
        crates();
        judges();
        images();
        counts();
        keeps();
        rows();
        elements();
        copies();
        cares();
        tosses();
        due.end();
    }

    private static void newObject() {
        TenYards x = new TenYards();
        for (int layer = 0; layer < 10; layer++) {
            due.is("1 wind east", x.wind(layer, false), 0);
            due.is("1 wind north", x.wind(layer, true), 0);
        }
        int[] counts = {0, 0, 0, 0, 400, 2000};
        for (int what = 0; what < counts.length; what++) {
            due.is("1 count " + what, x.count(what), counts[what]);
        }
        due.is("1 faller", x.faller(0, 0), -1);
        for (int d = 0; d < 8; d++) {
            due.is("1 shelf " + d, x.care(d), -11);
        }
    }

    private static void airCounts() {
        TenYards x = new TenYards();
        due.is("2 one", Due.read(x, "g0;"), 1);
        due.is("2 most", Due.read(x, "l9+90-90;g30;a900 3000;f79 20;b-3000-3000+3000+3000;"), 5);
        due.is("2 wind", x.wind(9, false), 90);
        due.is("2 wind", x.wind(9, true), -90);
        due.is("2 signs ahead of 0", Due.read(x, "l9-0+0;b-0+0-0+0;"), 2);
        due.is("2 wind", x.wind(9, false), 0);
        due.is("2 least", Due.read(x, "a0 300;f00 0;"), 2);
        due.is("2 same layer twice", Due.read(x, "l1+1+1;l1+2+3;"), 2);
        due.is("2 later wins", x.wind(1, false), 2);
        due.is("2 no shelf", x.air(8), -1);
        due.is("2 no shelf", x.air(-1), -1);
        due.is("2 nothing", x.air(0), -11);
        x.keep(0, 1, 0);
        due.is("2 a faller", x.air(0), -12);
        x.row(0, 1, 3);
        due.is("2 shorts", x.air(0), -12);
        x.row(0, 2, 3);
        due.is("2 ints", x.air(0), -12);
    }

    private static void formFault(String text, int place) {
        due.is("2 " + text, Due.read(new TenYards(), text), -1000 - place);
    }

    private static void airFaultsOfForm() {
        formFault("", 0);
        formFault("z", 0);
        formFault(";", 0);
        formFault(" g1;", 0);
        formFault("G1;", 0);
        formFault("g", 1);
        formFault("g;", 1);
        formFault("g1", 2);
        formFault("g1 ;", 2);
        formFault("g00;", 2);
        formFault("g12345;", 5);
        formFault("g1;;", 3);
        formFault("g1; g2;", 3);
        formFault("g+1;", 1);
        formFault("l+1+1;", 1);
        formFault("l01+1;", 2);
        formFault("l0+1;", 4);
        formFault("l0+01+1;", 4);
        formFault("l0+1+;", 5);
        formFault("a400;", 4);
        formFault("a400  2000;", 5);
        formFault("a 2000;", 1);
        formFault("f0 5;", 2);
        formFault("f005;", 3);
        formFault("f00 +5;", 4);
        formFault("b+1+2+3;", 7);
        formFault("b1+2+3+4;", 1);
        formFault("b+1+2+3+4+5;", 9);
        // A form that can't go on counts ahead of numbers that aren't as told, wherever it stands.
        formFault("g31;g", 5);
        formFault("f90 21;l0+91+0;x", 15);
        TenYards x = new TenYards();
        Due.write(x, 0, "g1;g");
        x.put(0, 3, -25);
        due.is("2 a byte below 0", x.air(0), -1003);
    }

    private static void numberFault(String text, int place) {
        due.is("2 " + text, Due.read(new TenYards(), text), -2000 - place);
    }

    private static void airFaultsOfNumbers() {
        numberFault("l0+91+0;", 0);
        numberFault("g1;l0+0-91;", 3);
        numberFault("g31;", 0);
        numberFault("a901 2000;", 0);
        numberFault("a900 3001;", 0);
        numberFault("a900 299;", 0);
        numberFault("f80 0;", 0);
        numberFault("f90 0;", 0);
        numberFault("f00 21;", 0);
        numberFault("b-3001+0+0+0;", 0);
        numberFault("b+0-3001+0+0;", 0);
        numberFault("b+0+0+3001+0;", 0);
        numberFault("b+0+0+0+9999;", 0);
        numberFault("g1;g31;g32;", 3);
        numberFault("f00 0;f00 0;f00 0;f00 0;f00 0;f00 0;f00 0;f00 0;f00 0;", 48);
        numberFault("b+0+0+0+0;b+0+0+0+0;b+0+0+0+0;b+0+0+0+0;b+0+0+0+0;b+0+0+0+0;b+0+0+0+0;", 60);
        TenYards x = Due.with("f00 0;f00 0;f00 0;f00 0;f00 0;f00 0;f00 0;");
        due.is("2 room for one", Due.read(x, "g5;f00 0;f00 0;"), -2009);
        due.is("2 nothing came", x.count(0), 7);
        due.is("2 the last", Due.read(x, "f00 0;"), 1);
        due.is("2 full", Due.read(x, "f00 0;"), -2000);
    }

    private static void airTakesAllOrNothing() {
        TenYards x = Due.with("l2+5-6;g3;a100 600;f20 4;b+0+0+1+1;");
        String[] bad = {"l2+1+1;g9;a1 700;f30 1;b+5+5+6+6;g31;", "l2+1+1;g9;a1 700;f30 1;b+5+5+6+6;g"};
        for (String text : bad) {
            due.isTrue("2 a fault", Due.read(x, text) < 0);
            due.is("2 wind stays", x.wind(2, false), 5);
            due.is("2 wind stays", x.wind(2, true), -6);
            due.is("2 gust stays", x.count(3), 3);
            due.is("2 plane stays", x.count(4), 100);
            due.is("2 height stays", x.count(5), 600);
            due.is("2 fallers stay", x.count(0), 1);
            due.is("2 boxes stay", x.count(1), 1);
            due.is("2 place stays", x.barred(55, 55), 0);
        }
    }

    private static void winds() {
        TenYards x = Due.with("l0+1-2;l9-90+90;");
        due.is("3", x.wind(0, false), 1);
        due.is("3", x.wind(0, true), -2);
        due.is("3", x.wind(9, false), -90);
        due.is("3", x.wind(9, true), 90);
        due.is("3", x.wind(-1, true), LOW - 1);
        due.is("3", x.wind(10, false), LOW - 1);
    }

    private static void sets() {
        TenYards x = new TenYards();
        int[][] edges = {{0, 30, 0}, {0, 900, 400}, {300, 3000, 2000}};
        for (int what = 0; what < 3; what++) {
            due.is("4 too low", x.set(what, edges[what][0] - 1), -1);
            due.is("4 too high", x.set(what, edges[what][1] + 1), -1);
            due.is("4 highest", x.set(what, edges[what][1]), edges[what][2]);
            due.is("4 lowest", x.set(what, edges[what][0]), edges[what][1]);
            due.is("4 it is", x.count(what + 3), edges[what][0]);
        }
        due.is("4 what", x.set(3, 0), -1);
        due.is("4 what", x.set(-1, 0), -1);
    }

    private static TenYards ofAllKinds(int figure, int opens) {
        StringBuilder text = new StringBuilder();
        for (int kind = 0; kind < 8; kind++) {
            text.append('f').append(kind).append(figure).append(' ').append(opens).append(';');
        }
        return Due.with(text.toString());
    }

    private static void fallers() {
        TenYards x = ofAllKinds(7, 11);
        int[] falls = {120, 120, 100, 145, 120, 120, 120, 145};
        int[] sinks = {16, 20, 13, 21, 23, 21, 18, 31};
        int[] paces = {40, 0, 34, 44, 20, 30, 61, 0};
        for (int kind = 0; kind < 8; kind++) {
            due.is("5 kind", x.faller(kind, 0), kind);
            due.is("5 figure", x.faller(kind, 1), 7);
            due.is("5 opens", x.faller(kind, 2), 11);
            due.is("5 falls of " + kind, x.faller(kind, 3), falls[kind]);
            due.is("5 sinks of " + kind, x.faller(kind, 4), sinks[kind]);
            due.is("5 pace of " + kind, x.faller(kind, 5), paces[kind]);
            due.is("5 what", x.faller(kind, 6), -1);
            due.is("5 what", x.faller(kind, -1), -1);
        }
        due.is("5 none", x.faller(8, 0), -1);
        due.is("5 none", x.faller(-1, 0), -1);
    }

    private static void drifts() {
        TenYards x = ofAllKinds(3, 0);
        int[] of31 = {31, 31, 38, 24, 31, 31, 31, 12};
        int[] of120 = {120, 120, 150, 96, 120, 120, 120, 48};
        for (int kind = 0; kind < 8; kind++) {
            due.is("6 of " + kind, x.drift(kind, 31), of31[kind]);
            due.is("6 of " + kind, x.drift(kind, -31), -of31[kind]);
            due.is("6 of " + kind, x.drift(kind, 120), of120[kind]);
            due.is("6 of " + kind, x.drift(kind, -120), -of120[kind]);
            due.is("6 of " + kind, x.drift(kind, 0), 0);
        }
        due.is("6 half of what was cut", x.drift(7, 4), 1);
        due.is("6", x.drift(0, 121), LOW - 1);
        due.is("6", x.drift(0, -121), LOW - 1);
        due.is("6", x.drift(8, 0), LOW - 1);
    }

    private static void steersAre(TenYards x, int faller, int px, int py, int layer, int east, int north) {
        String call = "7 steers(" + faller + ", " + px + ", " + py + ", " + layer + ")";
        due.is(call + " along x", x.steers(faller, px, py, layer, false), east);
        due.is(call + " along y", x.steers(faller, px, py, layer, true), north);
    }

    private static void steersOfFallers() {
        TenYards x = ofAllKinds(2, 0);
        steersAre(x, 0, 300, -200, 0, -40, 0);
        steersAre(x, 0, -300, -300, 0, 40, 0);
        steersAre(x, 0, 200, -201, 0, 0, 40);
        steersAre(x, 0, 39, 0, 0, -39, 0);
        steersAre(x, 0, 3, -7, 0, 0, 7);
        steersAre(x, 0, 0, 0, 0, 0, 0);
        steersAre(x, 1, 300, 300, 0, 0, 0);
        steersAre(x, 2, 300, 0, 0, -34, 0);
        steersAre(x, 3, 0, 30000, 0, 0, -44);
        steersAre(x, 7, 300, 300, 0, 0, 0);
        due.is("7", x.steers(8, 0, 0, 0, false), LOW - 1);
        due.is("7", x.steers(0, 30001, 0, 0, false), LOW - 1);
        due.is("7", x.steers(0, 0, -30001, 0, false), LOW - 1);
        due.is("7", x.steers(0, 0, 0, 10, false), LOW - 1);
        due.is("7", x.steers(0, 0, 0, -1, true), LOW - 1);
    }

    private static void steersOfOthers() {
        TenYards x = Due.with("l1+5-5;l2-6+5;l3+5-6;l4+0+1;f42 0;f52 0;f62 0;f50 0;g30;");
        steersAre(x, 0, 200, -200, 1, 0, 0);
        steersAre(x, 0, 201, 0, 1, -20, 0);
        steersAre(x, 0, 100, -201, 1, 0, 20);
        steersAre(x, 1, 200, 200, 3, 0, 0);
        steersAre(x, 1, 201, -9, 1, 0, 9);
        steersAre(x, 1, 201, -90, 2, 0, 30);
        steersAre(x, 1, 9, -201, 3, -9, 0);
        steersAre(x, 1, 0, -201, 3, 0, 0);
        steersAre(x, 3, 0, -1, 0, 0, 1);
        steersAre(x, 2, 5, 5, 1, 46, 0);
        steersAre(x, 2, 5, 5, 2, -46, 0);
        steersAre(x, 2, 5, 5, 3, 0, -46);
        steersAre(x, 2, 5, 5, 4, 0, 46);
        steersAre(x, 2, 5, 5, 0, 0, 0);
    }

    private static void barredBoxes() {
        TenYards x = Due.with("b+5-3-2+4;b+3000+3000+3000+3000;");
        due.is("8 corner", x.barred(50, -30), 1);
        due.is("8 corner", x.barred(-20, 40), 1);
        due.is("8 inside", x.barred(0, 0), 1);
        due.is("8 beside", x.barred(51, 0), 0);
        due.is("8 beside", x.barred(-21, 0), 0);
        due.is("8 beside", x.barred(0, 41), 0);
        due.is("8 beside", x.barred(0, -31), 0);
        due.is("8 the edge", x.barred(30000, 30000), 1);
        due.is("8", x.barred(30001, 0), -1);
        due.is("8", x.barred(0, -30001), -1);
    }

    private static void fallIs(TenYards x, int faller, int px, int py, int[] want) {
        for (int what = 0; what < 5; what++) {
            due.is("9 fall(" + faller + ", " + px + ", " + py + ", " + what + ")", x.fall(faller, px, py, what), want[what]);
        }
    }

    private static void falls() {
        TenYards x = Due.with("f00 0;b+36+38+36+38;");
        x.set(2, 300);
        fallIs(x, 0, 1000, 0, new int[] {240, 0, 19, 240, 0});
        fallIs(x, 0, 1000, 500, new int[] {360, 380, 19, 740, 1});
        fallIs(x, 0, -30, 0, new int[] {0, 0, 19, 0, 0});
        due.is("9", x.fall(1, 0, 0, 0), LOW - 1);
        due.is("9", x.fall(0, 30001, 0, 0), LOW - 1);
        due.is("9", x.fall(0, 0, 30001, 0), LOW - 1);
        due.is("9", x.fall(0, 0, 0, 5), LOW - 1);
        due.is("9", x.fall(0, 0, 0, -1), LOW - 1);
        // Two seconds in LAYER 1 (HEIGHTS 320, 300), the rest in LAYER 0.
        TenYards y = Due.with("l1+10-20;l0+3-4;f10 0;");
        y.set(2, 320);
        fallIs(y, 0, 0, 0, new int[] {20 + 14 * 3, -40 - 14 * 4, 16, 62 + 96, 0});
        // LAYER 9 holds 3000 too.
        TenYards z = Due.with("l9+10+0;f10 0;");
        z.set(2, 3000);
        due.is("9 layer 9", z.fall(0, 0, 0, 0), 160);
        due.is("9 held", z.fall(0, 29999, 0, 0), 30000);
        due.is("9 seconds", z.fall(0, 0, 0, 2), 150);
    }

    private static void fallsBeforeOpening() {
        TenYards x = Due.with("f00 2;f70 20;f10 12;");
        x.set(2, 300);
        fallIs(x, 0, 0, 0, new int[] {600, 0, 6, 600, 0});
        fallIs(x, 1, 0, 0, new int[] {400 + 360 + 320, 0, 3, 1080, 0});
        x.set(1, 7);
        due.is("9 cut", x.fall(1, 0, 0, 0), 7 + 6 + 5);
        x.set(1, 400);
        x.set(2, 3000);
        due.is("9 ten seconds of the plane", x.fall(2, 0, 0, 0), 2200);
        TenYards y = Due.with("l0+3-3;l1-5+7;f10 3;f20 3;g9;");
        y.set(1, 0);
        y.set(2, 310);
        // HEIGHTS 310 (LAYER 1), 190, 70: landed; no GUST before it opens.
        due.is("9 half, cut", y.fall(0, 0, 0, 0), -2 + 1 + 1);
        due.is("9 half, cut", y.fall(0, 0, 0, 1), 3 - 1 - 1);
        // Of a LIGHT one: 310, 210, 110, 10, the drift being 5 fourths of it, cut.
        due.is("9 light, at 3", y.at(1, 0, 0, 3, 0), -3 + 1 + 1);
        due.is("9 light, at 3", y.at(1, 0, 0, 3, 1), 4 - 1 - 1);
    }

    private static void fallsBySeeds() {
        TenYards x = Due.with("l0+3+4;f10 0;f60 0;g7;");
        x.set(2, 300);
        int[] seeds = {1, 5, -9, 0, Integer.MAX_VALUE, Integer.MIN_VALUE};
        for (int z : seeds) {
            // The first of 15 SECONDS is in LAYER 1, without WIND or DRAW.
            due.is("10 x by " + z, x.fallBy(0, 0, 0, z, 0), 14 * 3 + Draws.puffs(z, 7, 14));
            due.is("10 y by " + z, x.fallBy(0, 0, 0, z, 1), 14 * 4);
            due.is("10 seconds", x.fallBy(0, 0, 0, z, 2), 15);
            due.is("10 off", x.fallBy(0, 0, 0, z, 3), Math.abs(14 * 3 + Draws.puffs(z, 7, 14)) + 56);
        }
        due.is("9 by seed 1", x.fall(0, 0, 0, 0), x.fallBy(0, 0, 0, 1, 0));
        due.is("10 what", x.fallBy(0, 0, 0, 1, 5), LOW - 1);
        due.is("10 place", x.fallBy(0, 0, 30001, 1, 0), LOW - 1);
        due.is("10 faller", x.fallBy(2, 0, 0, 1, 0), LOW - 1);
        x.set(0, 0);
        due.is("10 no gust", x.fallBy(0, 0, 0, 77, 0), 42);
        // A DOWNWIND one goes by the WIND with the GUST in it: EAST 3 and less or more, NORTH 4.
        x.set(0, 7);
        int alongX = 0;
        int z = 1;
        for (int i = 0; i < 16; i++) {
            z = z * 1103515245 + 12345;
            int east = 3 + (z >>> 16 & 0x7fff) % 15 - 7;
            alongX += Math.abs(east) >= 4 ? Integer.signum(east) * 40 : 0;
        }
        due.is("10 steers by the gust", x.fall(1, 0, 0, 0), 16 * 3 + Draws.puffs(1, 7, 16) + alongX);
    }

    private static void secondsOfFalls() {
        TenYards x = Due.with("f00 2;");
        x.set(2, 300);
        int[] xs = {5, 405, 765, 725, 685, 645, 605, 605};
        int[] heights = {300, 180, 60, 44, 28, 12, 0, 0};
        for (int n = 0; n < xs.length; n++) {
            due.is("11 x at " + n, x.at(0, 5, 9, n, 0), xs[n]);
            due.is("11 y at " + n, x.at(0, 5, 9, n, 1), 9);
            due.is("11 height at " + n, x.at(0, 5, 9, n, 2), heights[n]);
        }
        due.is("11 at 400", x.at(0, 5, 9, 400, 0), 605);
        due.is("11", x.at(0, 0, 0, 401, 0), LOW - 1);
        due.is("11", x.at(0, 0, 0, -1, 0), LOW - 1);
        due.is("11", x.at(0, 0, 0, 0, 3), LOW - 1);
        due.is("11", x.at(0, -30001, 0, 0, 0), LOW - 1);
        due.is("11", x.at(1, 0, 0, 0, 0), LOW - 1);
    }

    private static void means() {
        TenYards x = Due.with("l1+10-20;l0+3-4;f00 0;f00 20;f60 1;");
        x.set(2, 320);
        // Two SECONDS in LAYER 1, 18 in LAYER 0: (20 + 54) / 20, (-40 - 72) / 20, cut.
        due.is("12 east", x.mean(0, 0, 0, false), 3);
        due.is("12 north", x.mean(0, 0, 0, true), -5);
        due.is("12 landed first", x.mean(1, 0, 0, false), 0);
        due.is("12 landed first", x.mean(1, 0, 0, true), 0);
        due.is("12 open only", x.mean(2, 0, 0, false), 3);
        due.is("12 open only", x.mean(2, 0, 0, true), -4);
        due.is("12 held at the edge", x.mean(0, 30000, 0, false), 0);
        due.is("12", x.mean(3, 0, 0, false), LOW - 1);
        due.is("12", x.mean(0, 30001, 0, false), LOW - 1);
        due.is("12", x.mean(0, 0, 30001, true), LOW - 1);
    }

    private static void exits() {
        TenYards x = Due.with("f10 20;f10 0;");
        // It lands after 20 SECONDS at 120 feet a SECOND, 2200 further east than it left.
        due.is("13 x", x.exit(0, 0), -2000);
        due.is("13 y", x.exit(0, 1), 0);
        due.is("13 off", x.exit(0, 2), 200);
        x.set(1, 450);
        // 2475 further: -2000 leaves 475, -3000 525.
        due.is("13 x", x.exit(0, 0), -2000);
        due.is("13 off", x.exit(0, 2), 475);
        due.is("13 x", x.exit(1, 0), 0);
        due.is("13 off", x.exit(1, 2), 0);
        due.is("13", x.exit(0, 3), LOW - 1);
        due.is("13", x.exit(0, -1), LOW - 1);
        due.is("13", x.exit(2, 0), LOW - 1);
        // 500 further along each: both -1000 and 0 leave 500.
        TenYards y = Due.with("l0+35+35;l1+10+10;a0 300;f10 0;");
        due.is("13 half way", y.exit(0, 0), -1000);
        due.is("13 half way", y.exit(0, 1), -1000);
        due.is("13 half way", y.exit(0, 2), 1000);
        // Carried further than any of them makes good: the outermost.
        String[] ways = {"+90+90;", "-90-90;"};
        for (String way : ways) {
            TenYards w = Due.with("a0 3000;f10 0;");
            for (int layer = 0; layer < 10; layer++) {
                Due.read(w, "l" + layer + way);
            }
            due.is("13 outermost x", w.exit(0, 0), way.charAt(0) == '+' ? -10000 : 10000);
            due.is("13 outermost y", w.exit(0, 1), way.charAt(0) == '+' ? -10000 : 10000);
            due.is("13 outermost off", w.exit(0, 2), 2 * (150 * 90 - 10000));
        }
        // Of several the least x, then y: by steering home.
        TenYards z = Due.with("f00 0;");
        z.set(2, 3000);
        // 188 SECONDS by 40 bring 7520 home: of all with x and y together no more, the first is (-7000, 0).
        due.is("13 least x", z.exit(0, 0), -7000);
        due.is("13 least y", z.exit(0, 1), 0);
        due.is("13 off", z.exit(0, 2), 0);
        z.set(2, 2000);
        // 125 SECONDS bring 5000 home: (-5000, 0) first.
        due.is("13 least x", z.exit(0, 0), -5000);
    }

    private static void loads() {
        TenYards x = Due.with("f10 0;f00 0;b+60+0+60+0;");
        x.set(2, 300);
        x.set(1, 100);
        Due.bytes(x, 0, 0, 0, 0, 0);
        // They land where they leave: 0, 300, 600 (BARRED), 900.
        due.is("14", x.load(0, 0, 0, 3, 900), 3);
        due.is("14", x.load(0, 0, 0, 3, 899), 2);
        due.is("14", x.load(0, 0, 0, 3, 0), 1);
        due.is("14 held", x.load(0, 29900, 0, 3, 60000), 4);
        due.is("14 held", x.load(0, 29900, 0, 3, 30000), 4);
        due.is("14 held", x.load(0, 29900, 0, 3, 29999), 1);
        refusedLoads(x);
    }

    private static void refusedLoads(TenYards x) {
        due.is("14 shelf", x.load(8, 0, 0, 1, 0), -1);
        due.is("14 x", x.load(1, 30001, 0, 1, 0), -1);
        due.is("14 y", x.load(1, 0, 30001, 1, 0), -1);
        due.is("14 gap", x.load(1, 0, 0, 0, 0), -1);
        due.is("14 gap", x.load(1, 0, 0, 21, 0), -1);
        due.is("14 n", x.load(1, 0, 0, 1, -1), -1);
        due.is("14 n", x.load(1, 0, 0, 1, 60001), -1);
        due.is("14 nothing", x.load(1, 0, 0, 20, 60000), -11);
        due.is("15 nothing", x.bestLoad(1, 0, 0, 0), LOW - 11);
        due.is("16 nothing", x.order(1, 0, 0, 1, 0), -11);
        x.keep(1, 1, 0);
        due.is("14 a faller", x.load(1, 0, 0, 1, 0), -12);
        due.is("15 a faller", x.bestLoad(1, 0, 0, 0), LOW - 12);
        due.is("16 a faller", x.order(1, 0, 0, 1, 0), -12);
        x.row(1, 1, 1);
        due.is("14 shorts", x.load(1, 0, 0, 1, 0), -12);
        due.is("15 shorts", x.bestLoad(1, 0, 0, 0), LOW - 12);
        due.is("16 shorts", x.order(1, 0, 0, 1, 0), -12);
        int[][] bad = {{}, {0, 0, 0, 0, 0, 0}, {0, 2}, {-1}, {0, 0, 0, 0, 8}};
        for (int[] row : bad) {
            Due.bytes(x, 1, row);
            due.is("14 row", x.load(1, 0, 0, 1, 0), -13);
            due.is("15 row", x.bestLoad(1, 0, 0, 0), LOW - 13);
            due.is("16 row", x.order(1, 0, 0, 1, 0), -13);
        }
        due.is("15 shelf", x.bestLoad(-1, 0, 0, 0), LOW - 1);
        due.is("15 y", x.bestLoad(1, 30001, 0, 0), LOW - 1);
        due.is("15 n", x.bestLoad(1, 0, 60001, 0), LOW - 1);
        due.is("15 n", x.bestLoad(1, 0, -1, 0), LOW - 1);
        due.is("15 what", x.bestLoad(1, 0, 0, 3), LOW - 1);
        due.is("15 what", x.bestLoad(1, 0, 0, -1), LOW - 1);
        due.is("16 shelf", x.order(8, 0, 0, 1, 0), -1);
        due.is("16 x", x.order(1, 30001, 0, 1, 0), -1);
        due.is("16 gap", x.order(1, 0, 0, 21, 0), -1);
        due.is("16 what", x.order(1, 0, 0, 1, 2), -1);
    }

    private static void bestLoads() {
        TenYards x = Due.with("f10 0;f00 0;");
        x.set(2, 300);
        x.set(1, 500);
        Due.bytes(x, 0, 0, 0, 0);
        // Three, 500 GAP apart: all within 1000 from -1000 on with GAP 1 or 2.
        due.is("15 x", x.bestLoad(0, 0, 1000, 0), -1000);
        due.is("15 gap", x.bestLoad(0, 0, 1000, 1), 1);
        due.is("15 most", x.bestLoad(0, 0, 1000, 2), 3);
        // Within 0: one of them, with the least GAP from the least x: two GAPS ahead of 0.
        due.is("15 x", x.bestLoad(0, 0, 0, 0), -1000);
        due.is("15 gap", x.bestLoad(0, 0, 0, 1), 1);
        due.is("15 most", x.bestLoad(0, 0, 0, 2), 1);
        due.is("15 none: the first", x.bestLoad(0, 10000, 0, 0), -10000);
        due.is("15 none: the first", x.bestLoad(0, 10000, 0, 1), 1);
        due.is("15 none: the first", x.bestLoad(0, 10000, 0, 2), 0);
        // The wind takes them 9990 west and the plane 1 a GAP east: only the last x, only the last GAP.
        TenYards y = Due.with("l0-90+0;l1-90+0;l2-90+0;l3-90+0;l4-90+0;l5-90+0;l6-90+0;l7-90+0;a1 2220;f10 0;");
        Due.bytes(y, 0, 0, 0);
        due.is("15 carried", y.fall(0, 10000, 0, 0), 10);
        due.is("15 edges", y.bestLoad(0, 0, 20, 0), 10000);
        due.is("15 edges", y.bestLoad(0, 0, 20, 1), 1);
        due.is("15 edges", y.bestLoad(0, 0, 20, 2), 2);
        Due.read(y, "b+0-3000+1+3000;b+2-3000+5+3000;");
        y.set(1, 11);
        due.is("15 edges", y.bestLoad(0, 0, 120, 0), 10000);
        due.is("15 edges", y.bestLoad(0, 0, 120, 1), 4);
        Due.read(y, "b+5-3000+11+3000;");
        due.is("15 edges", y.bestLoad(0, 0, 120, 0), 10000);
        due.is("15 edges", y.bestLoad(0, 0, 120, 1), 10);
        due.is("15 edges", y.bestLoad(0, 0, 120, 2), 1);
        Due.read(y, "b+12-3000+12+3000;");
        due.is("15 no greater gap", y.bestLoad(0, 0, 140, 2), 0);
        // With boxes at 500 and -500 the GAP of 2 is the least with which all three are good.
        Due.read(x, "b+50+0+50+0;b-50+0-50+0;");
        due.is("15 barred", x.bestLoad(0, 0, 1000, 0), -1000);
        due.is("15 barred", x.bestLoad(0, 0, 1000, 1), 2);
        due.is("15 barred", x.bestLoad(0, 0, 1000, 2), 3);
    }

    private static void orders() {
        TenYards x = Due.with("f00 0;f10 0;");
        x.set(2, 300);
        x.set(1, 100);
        // FALLER 0 comes 760 nearer, FALLER 1 lands where it leaves.
        Due.bytes(x, 0, 0, 1);
        due.is("16 digits", x.order(0, 0, 0, 10, 0), 1);
        due.is("16 sum", x.order(0, 0, 0, 10, 1), 240);
        due.is("16 digits", x.order(0, 1000, 0, 10, 0), 10);
        due.is("16 sum", x.order(0, 1000, 0, 10, 1), 240 + 2000);
        Due.bytes(x, 0, 1, 0, 1);
        // Leaving from 0, 400, 800: the one that steers saves all of 400, and 760 of 800: places 0, 2, 1.
        due.is("16 digits", x.order(0, 0, 0, 4, 0), 120);
        due.is("16 sum", x.order(0, 0, 0, 4, 1), 0 + 400 + 40);
        Due.bytes(x, 0, 1, 1, 1, 1, 1);
        due.is("16 all the same", x.order(0, 0, 0, 1, 0), 43210);
        due.is("16 all the same", x.order(0, 0, 0, 1, 1), 1000);
        // They come home by 816, 760, 660, 380 and 0 and leave from 0, 230, .. 920: the last order of all is best.
        TenYards y = Due.with("a230 300;f20 0;f00 0;f30 0;f40 0;f10 0;");
        Due.bytes(y, 0, 0, 1, 2, 3, 4);
        due.is("16 the last", y.order(0, 0, 0, 1, 0), 1234);
        due.is("16 the last", y.order(0, 0, 0, 1, 1), 104);
        Due.bytes(x, 0, 1);
        due.is("16 one", x.order(0, -7, 9, 1, 0), 0);
        due.is("16 one", x.order(0, -7, 9, 1, 1), 16);
    }

    private static void cones() {
        TenYards x = Due.with("f10 20;f00 20;");
        due.is("17 papers", x.cone(0, 1, 0), 1);
        due.is("17 papers", x.cone(0, 3000, 499), 1);
        due.is("17 papers", x.cone(0, 3000, 500), 5);
        due.is("17 all", x.cone(0, 3000, 60000), 441);
        // One SECOND by 40.
        due.is("17 one second", x.cone(1, 16, 460), 5);
        due.is("17 one second", x.cone(1, 16, 459), 1);
        due.is("17 two seconds", x.cone(1, 17, 420), 5);
        TenYards y = Due.with("l0+50+0;f10 0;");
        due.is("17 wind", y.cone(0, 200, 0), 1);
        due.is("17 wind", y.cone(0, 180, 49), 0);
        due.is("17 wind", y.cone(0, 180, 50), 1);
        due.is("17", x.cone(2, 1, 0), -1);
        due.is("17", x.cone(0, 0, 0), -1);
        due.is("17", x.cone(0, 3001, 0), -1);
        due.is("17", x.cone(0, 1, -1), -1);
        due.is("17", x.cone(0, 1, 60001), -1);
    }

    private static void steerings() {
        TenYards x = Due.with("f00 0;f10 0;f00 20;");
        x.set(2, 320);
        // 20 SECONDS: 800 along each part.
        int[][] from = {{0, 0}, {-800, 0}, {800, 0}, {0, -800}, {0, 800}, {-800, -800}, {800, -800}, {-800, 800}, {800, 800}};
        for (int way = 0; way < 9; way++) {
            due.is("18 way " + way, x.steering(0, from[way][0], from[way][1], 0), way);
            due.is("18 way " + way, x.steering(0, from[way][0], from[way][1], 1), 0);
        }
        due.is("18 of several the least", x.steering(0, 400, 0, 0), 0);
        due.is("18 of several the least", x.steering(0, 401, 0, 0), 2);
        due.is("18 off", x.steering(0, 401, 0, 1), 399);
        due.is("18 papers", x.steering(1, 5000, 0, 0), 0);
        due.is("18 landed first", x.steering(2, 0, 0, 1), 400 + 360 + 320);
        due.is("18", x.steering(3, 0, 0, 0), -1);
        due.is("18", x.steering(0, 30001, 0, 0), -1);
        due.is("18", x.steering(0, 0, -30001, 0), -1);
        due.is("18", x.steering(0, 0, 0, 2), -1);
    }

    private static void lasts() {
        TenYards x = Due.with("f00 0;f20 9;f30 20;");
        due.is("19", x.last(0), 15);
        due.is("19", x.last(1), 18);
        due.is("19", x.last(2), 12);
        x.set(2, 300);
        due.is("19 just 200", x.last(1), 1);
        due.is("19", x.last(0), 0);
        x.set(2, 3000);
        due.is("19 most", x.last(1), 20);
        due.is("19", x.last(3), -1);
        due.is("19", x.last(-1), -1);
    }

    private static void safeIs(TenYards x, int px, int py, int wantX, int wantY) {
        due.is("20 x for " + px + ", " + py, x.safe(px, py, 0), wantX);
        due.is("20 y for " + px + ", " + py, x.safe(px, py, 1), wantY);
    }

    private static void safes() {
        TenYards x = new TenYards();
        safeIs(x, 0, 0, 0, 0);
        safeIs(x, 499, -501, 0, -100);
        safeIs(x, 500, 500, 0, 0);
        safeIs(x, -30000, 30000, -3000, 3000);
        Due.read(x, "b-50-50+50+50;");
        safeIs(x, 0, 0, -100, 0);
        safeIs(x, 1, 0, 100, 0);
        safeIs(x, 0, 1, 0, 100);
        Due.read(x, "b-3000-3000+3000+2999;");
        safeIs(x, 0, 0, 0, 3000);
        Due.read(x, "b-3000+2999+3000+3000;");
        safeIs(x, 0, 0, LOW - 4, LOW - 4);
        due.is("20", x.safe(30001, 0, 0), LOW - 1);
        due.is("20", x.safe(0, -30001, 0), LOW - 1);
        due.is("20", x.safe(0, 0, 2), LOW - 1);
    }

    private static void withins() {
        TenYards x = Due.with("f10 0;g20;");
        x.set(2, 300);
        int z = Integer.MAX_VALUE - 3;
        int want = 0;
        for (int i = 0; i < 20; i++) {
            want += Math.abs(Draws.puffs(z + i, 20, 14)) <= 40 ? 1 : 0;
        }
        due.is("21", x.within(0, 0, 0, 40, 20, z), want);
        due.is("21 all", x.within(0, 0, 0, 60000, 20, z), 20);
        due.is("21 none", x.within(0, 0, 500, 499, 1, z), 0);
        x.set(0, 0);
        due.is("21 just", x.within(0, 100, -500, 600, 3, z), 3);
        due.is("21 not quite", x.within(0, 100, -500, 599, 3, z), 0);
        refusedSeeds(x);
    }

    private static void refusedSeeds(TenYards x) {
        int[][] bad = {{1, 0, 0, 0, 1}, {0, 30001, 0, 0, 1}, {0, 0, -30001, 0, 1}, {0, 0, 0, -1, 1},
            {0, 0, 0, 60001, 1}, {0, 0, 0, 0, 0}, {0, 0, 0, 0, 21}};
        for (int[] a : bad) {
            due.is("21 refused", x.within(a[0], a[1], a[2], a[3], a[4], 1), -1);
            due.is("22 refused", x.stop(a[0], a[1], a[2], a[3], a[4], 1), -1);
        }
    }

    /** The least GUST of which papers from 300 feet, 14 SECONDS in LAYER 0, land within m in fewer than half. */
    private static int stopByHand(int m, int n, int z) {
        for (int gust = 0; gust <= 30; gust++) {
            int good = 0;
            for (int i = 0; i < n; i++) {
                good += Math.abs(Draws.puffs(z + i, gust, 14)) <= m ? 1 : 0;
            }
            if (good < n - good) {
                return gust;
            }
        }
        return -4;
    }

    private static void stops() {
        boolean only30 = false;
        for (int m = 0; m <= 120; m++) {
            TenYards x = Due.with("f10 0;g20;a400 300;");
            for (int n = 1; n <= 8; n++) {
                int want = stopByHand(m, n, 3);
                only30 |= want == 30;
                due.is("22 within " + m + " of " + n, x.stop(0, 0, 0, m, n, 3), want);
            }
        }
        due.isTrue("22 the greatest gust is among them", only30);
        TenYards x = Due.with("f10 0;g20;a400 300;");
        due.is("22 at once", x.stop(0, 1, 0, 0, 1, 3), 0);
        due.is("22 never", x.stop(0, 0, 0, 60000, 1, 3), -4);
        due.is("22 gust stays", x.count(3), 20);
    }

    private static void knews() {
        TenYards x = Due.with("l0+10+0;f10 0;f00 0;f10 1;");
        x.set(2, 300);
        // Papers from (100, 50) land at (240, 50) after one SECOND in LAYER 1 and 14 in LAYER 0.
        due.is("23 landing", x.fall(0, 100, 50, 0), 240);
        int blind = x.fall(1, 100, 50, 3);
        int taught = x.fall(1, -140, 0, 3);
        due.is("23", x.knew(1, 0, 100, 50), blind - taught);
        // Papers that open later go 400 by the plane and 90 with the wind; what the others went is 140.
        int later = x.fall(2, -140, 0, 0);
        due.is("23", x.knew(2, 0, 100, 0), 100 + 140 + later - Math.abs(later));
        due.is("23 below 0", x.knew(0, 1, 0, 0), x.fall(0, 0, 0, 3) - x.fall(0, -x.fall(1, 0, 0, 0), 0, 3));
        due.is("23 one twice", x.knew(1, 1, 0, 0), LOW - 1);
        due.is("23", x.knew(3, 1, 0, 0), LOW - 1);
        due.is("23", x.knew(1, 3, 0, 0), LOW - 1);
        due.is("23", x.knew(1, 0, 30001, 0), LOW - 1);
        due.is("23", x.knew(1, 0, 0, 30001), LOW - 1);
        // A LIGHT one goes more than 30000 west: what it went is held to that.
        TenYards y = Due.with("l0-90+0;l1-90+0;l2-90+0;l3-90+0;l4-90+0;l5-90+0;l6-90+0;l7-90+0;l8-90+0;l9-90+0;", "f20 0;f10 0;");
        y.set(2, 3000);
        due.isTrue("23 far", 30000 - y.fall(0, 30000, 0, 0) > 30000);
        due.is("23 held", y.knew(1, 0, 30000, 0), y.fall(1, 30000, 0, 3) - y.fall(1, 30000, 0, 3));
        due.is("23 held", y.knew(1, 0, 29000, 0), y.fall(1, 29000, 0, 3) - y.fall(1, 30000, 0, 3));
    }

    private static void twos() {
        TenYards x = Due.with("f10 0;f10 0;f70 0;f00 0;");
        x.set(2, 300);
        x.set(1, 10);
        // Both sink by 20: 10 apart along x and 20 in HEIGHT for each SECOND of the GAP.
        due.is("24", x.two(0, 1, 1, 0, 0), 30);
        due.is("24", x.two(0, 1, 10, 0, 0), 300);
        due.is("24 landed as the later one leaves", x.two(0, 1, 15, 0, 0), -4);
        due.is("24 as it leaves", x.two(0, 1, 14, 0, 0), 14 * 30);
        due.is("24 held", x.two(0, 1, 10, 30000, 0), 200);
        // The later one sinks by 31, 11 more, and overtakes the other: HEIGHTS 280-20k and 300-31k; 10 along x.
        due.is("24 overtakes", x.two(0, 2, 1, 0, 0), 10 + 2);
        // It draws away: nearest as it leaves.
        due.is("24 as it leaves", x.two(2, 0, 2, 0, 0), 20 + 62);
        due.is("24 one twice", x.two(0, 0, 1, 0, 0), -1);
        due.is("24", x.two(4, 0, 1, 0, 0), -1);
        due.is("24", x.two(0, 4, 1, 0, 0), -1);
        due.is("24", x.two(0, 1, 0, 0, 0), -1);
        due.is("24", x.two(0, 1, 21, 0, 0), -1);
        due.is("24", x.two(0, 1, 1, 30001, 0), -1);
        due.is("24", x.two(0, 1, 1, 0, -30001), -1);
        // Each FALL has DRAWS of its own: with the same ones 1 SECOND later they keep their lead along x.
        Due.read(x, "g30;");
        x.set(1, 0);
        int least = Integer.MAX_VALUE;
        for (int n = 1; n < 15; n++) {
            least = Math.min(least, 20 + Math.abs(x.at(0, 0, 0, n, 0) - x.at(1, 0, 0, n - 1, 0)));
        }
        due.is("24 draws of its own", x.two(0, 1, 1, 0, 0), least);
    }

    private static void habits() {
        TenYards x = new TenYards();
        x.set(2, 300);
        // From (1000, 0), OPENS 0, FIGURE 0: 0 lands at 240, 1 and 7 at 1000, 2 at 184 (24 SECONDS by 34),
        // 3 at 340 (15 by 44), 4 at 620 (19 by 20), 5 at 1000 (it steers along y), 6 at 1000 (no WIND).
        int[] at = {240, 1000, 184, 340, 620, 1000, 1000, 1000};
        for (int kind = 0; kind < 8; kind++) {
            int bits = 0;
            for (int other = 0; other < 8; other++) {
                bits |= at[other] == at[kind] ? 1 << other : 0;
            }
            due.is("25 kind " + kind, x.habits(0, 1000, 0, at[kind], 0, 0), bits);
            due.is("25 along y", x.habits(0, 1000, 0, at[kind], 1, 0), 0);
        }
        due.is("25 give or take", x.habits(0, 1000, 0, 290, 50, 50), 1 + 8);
        due.is("25 give or take", x.habits(0, 1000, 0, 290, 51, 50), 0);
        due.is("25 give or take", x.habits(0, 1000, 0, 291, 50, 50), 8);
        // FIGURE 9, OPENS 20: 3 SECONDS (100 feet: 3, the same), 1080 further.
        due.is("25 figure, opens", x.habits(920, 0, 0, 1080, 0, 0), 255);
        due.is("25 a figure", x.habits(900, 600, 0, 600, 0, 0), 2 + 16 + 32 + 64 + 128);
        int[][] bad = {{-1, 0, 0, 0, 0, 0}, {21, 0, 0, 0, 0, 0}, {1000, 0, 0, 0, 0, 0}, {999, 0, 0, 0, 0, 0},
            {0, 30001, 0, 0, 0, 0}, {0, 0, 30001, 0, 0, 0}, {0, 0, 0, 30001, 0, 0}, {0, 0, 0, 0, 30001, 0},
            {0, 0, 0, 0, 0, -1}, {0, 0, 0, 0, 0, 10000}};
        for (int[] a : bad) {
            due.is("25 refused", x.habits(a[0], a[1], a[2], a[3], a[4], a[5]), -1);
        }
        due.is("25 no fallers come", x.count(0), 0);
    }

    private static void crates() {
        TenYards x = Due.with("g25;");
        x.set(2, 300);
        int least = 0;
        int most = 0;
        for (int n = 1; n <= 5; n++) {
            int at = Draws.puffs(n + 8, 25, 14);
            least = n == 1 ? at : Math.min(least, at);
            most = n == 1 ? at : Math.max(most, at);
            due.is("26 of " + n, x.crates(n, 0, 0, 9), most - least);
        }
        due.is("26", x.crates(0, 0, 0, 9), -1);
        due.is("26", x.crates(6, 0, 0, 9), -1);
        due.is("26", x.crates(1, 30001, 0, 9), -1);
        due.is("26", x.crates(1, 0, -30001, 9), -1);
        x.set(0, 0);
        due.is("26 no gust", x.crates(5, 0, 0, 9), 0);
    }

    private static void judges() {
        TenYards x = Due.with("f10 0;");
        x.set(2, 300);
        Due.rowOf(x, 0, 2, 7, 1007, 2007, 3007);
        due.is("27 all so", x.judge(0, -7, 0), -4);
        x.put(0, 2, 2006);
        due.is("27 first", x.judge(0, -7, 0), 2);
        x.put(0, 2, Integer.MIN_VALUE);
        due.is("27 skipped", x.judge(0, -7, 0), -4);
        Due.rowOf(x, 0, 1, 7, -32768, 2007, -32767);
        due.is("27 shorts", x.judge(0, 7, 0), 3);
        Due.rowOf(x, 0, 0, 7, -128, -128, -127);
        due.is("27 bytes", x.judge(0, 7, 0), 3);
        due.is("27 first", x.judge(0, 8, 0), 0);
        x.row(0, 0, 0);
        due.is("27 empty", x.judge(0, 8, 0), -4);
        x.row(0, 2, 31);
        for (int i = 0; i < 31; i++) {
            x.put(0, i, i * 1000);
        }
        due.is("27 31 of them", x.judge(0, 0, 0), -4);
        x.row(0, 2, 32);
        due.is("27 32 of them", x.judge(0, 0, 0), -13);
        due.is("27", x.judge(1, 0, 0), -1);
        due.is("27", x.judge(0, 30001, 0), -1);
        due.is("27", x.judge(0, 0, 8), -1);
        due.is("27", x.judge(0, 0, 1), -11);
        x.keep(1, 1, 0);
        due.is("27", x.judge(0, 0, 1), -12);
    }

    private static void images() {
        TenYards x = Due.with("l3+4-5;g6;a70 800;f51 2;b+1+1+2+2;");
        due.is("29 none", x.restore(), -3);
        due.is("28", x.image(), 1);
        Due.read(x, "l3+0+0;l4+1+1;g7;a71 801;f62 3;f62 3;b+3+3+4+4;");
        x.keep(0, 1, 2);
        Due.bytes(x, 1, 42);
        due.is("29", x.restore(), 1);
        due.is("29 wind", x.wind(3, false), 4);
        due.is("29 wind", x.wind(3, true), -5);
        due.is("29 wind", x.wind(4, true), 0);
        int[] counts = {1, 1, 1, 6, 70, 800};
        for (int what = 0; what < 6; what++) {
            due.is("29 count " + what, x.count(what), counts[what]);
        }
        due.is("29 faller", x.faller(0, 0), 5);
        due.is("29 no faller", x.faller(1, 0), -1);
        due.is("29 box", x.barred(15, 15), 1);
        due.is("29 no box", x.barred(35, 35), 0);
        due.is("29 shelves stay", x.care(0), 20);
        due.is("29 shelves stay", x.element(1, 0), 42);
        x.set(0, 9);
        due.is("29 once more", x.restore(), 1);
        due.is("29 once more", x.count(3), 6);
        Due.read(x, "f00 0;");
        due.is("28 once more", x.image(), 2);
        x.set(1, 0);
        due.is("29 the later one", x.restore(), 2);
        due.is("29 the later one", x.count(4), 70);
        TenYards y = new TenYards();
        due.is("28 of nothing", y.image(), 0);
        Due.read(y, "f00 0;g1;l0+1+1;b+0+0+0+0;");
        due.is("29 of nothing", y.restore(), 0);
        due.is("29 of nothing", y.count(2), 0);
        due.is("29 of nothing", y.barred(0, 0), 0);
    }

    private static void counts() {
        TenYards x = Due.with("l3+4-5;l4+0+1;l5+1+0;l6+0+0;g6;a70 800;f51 2;f51 2;b+1+1+2+2;");
        int[] counts = {2, 1, 3, 6, 70, 800};
        for (int what = 0; what < 6; what++) {
            due.is("30 " + what, x.count(what), counts[what]);
        }
        due.is("30", x.count(6), -1);
        due.is("30", x.count(-1), -1);
    }

    private static void keeps() {
        TenYards x = Due.with("f21 0;f31 0;");
        due.is("31", x.keep(7, 1, 1), 0);
        due.is("31", x.care(7), 20);
        due.is("31 no faller", x.keep(7, 1, 2), -1);
        due.is("31 no faller", x.keep(7, 1, -1), -1);
        due.is("31 what", x.keep(7, 2, 0), -1);
        due.is("31 what", x.keep(7, -1, 0), -1);
        due.is("31 shelf", x.keep(8, 1, 0), -1);
        due.is("31 shelf", x.keep(-1, 0, 0), -1);
        due.is("31 stays", x.care(7), 20);
        due.is("31 nothing", x.keep(7, 0, 99), 0);
        due.is("31 nothing", x.care(7), -11);
        x.row(7, 0, 2);
        due.is("31 in a row's place", x.keep(7, 1, 0), 0);
        due.is("31 in a row's place", x.put(7, 0, 1), -12);
    }

    private static void rows() {
        TenYards x = new TenYards();
        due.is("32 most", x.row(0, 2, 100), 0);
        due.is("33 last", x.put(0, 99, 5), 0);
        due.is("33 behind", x.put(0, 100, 5), -13);
        due.is("33 ahead", x.put(0, -1, 5), -13);
        due.is("32 too many", x.row(0, 2, 101), -1);
        due.is("32 below 0", x.row(0, 2, -1), -14);
        due.is("32 sort", x.row(0, 3, -1), -1);
        due.is("32 sort", x.row(0, -1, 1), -1);
        due.is("32 shelf", x.row(8, 0, -1), -1);
        due.is("32 stays", x.element(0, 99), 5);
        due.is("32 anew", x.row(0, 1, 100), 0);
        due.is("32 all 0", x.element(0, 99), 0);
        due.is("32 none", x.row(0, 0, 0), 0);
        due.is("33 none", x.put(0, 0, 0), -13);
        due.is("33 shelf", x.put(8, 0, 0), -1);
        due.is("33 nothing", x.put(1, 0, 0), -11);
        Due.read(x, "f00 0;");
        x.keep(1, 1, 0);
        due.is("33 a faller", x.put(1, 0, 0), -12);
    }

    private static void elements() {
        TenYards x = Due.with("f00 0;");
        int[] values = {127, 128, 255, 256, -129, 32767, 32768, 65535, 65536, -32769, Integer.MIN_VALUE, -1};
        for (int v : values) {
            Due.rowOf(x, 0, 0, v);
            due.is("34 byte", x.element(0, 0), (byte) v);
            Due.rowOf(x, 0, 1, v);
            due.is("34 short", x.element(0, 0), (short) v);
            Due.rowOf(x, 0, 2, v);
            due.is("34 int", x.element(0, 0), v);
        }
        due.is("34", Due.thrownBy(x, 0, 0), 0);
        due.is("34 place", Due.thrownBy(x, 0, 1), 2);
        due.is("34 place", Due.thrownBy(x, 0, -1), 2);
        due.is("34 nothing", Due.thrownBy(x, 1, 0), 2);
        x.keep(1, 1, 0);
        due.is("34 a faller", Due.thrownBy(x, 1, 0), 2);
        due.is("34 shelf", Due.thrownBy(x, 8, 0), 1);
        due.is("34 shelf", Due.thrownBy(x, -1, 0), 1);
    }

    private static void rowIs(TenYards x, int d, int... want) {
        for (int i = 0; i < want.length; i++) {
            due.is("35 element " + i, x.element(d, i), want[i]);
        }
    }

    private static void copies() {
        TenYards x = Due.with("f00 0;");
        Due.rowOf(x, 0, 1, 1, 2, 3, 4, 5);
        due.is("35 forth", x.copy(0, 0, 0, 1, 4), 4);
        rowIs(x, 0, 1, 1, 2, 3, 4);
        Due.rowOf(x, 0, 1, 1, 2, 3, 4, 5);
        due.is("35 back", x.copy(0, 2, 0, 0, 3), 3);
        rowIs(x, 0, 3, 4, 5, 4, 5);
        x.row(1, 1, 2);
        due.is("35 to another", x.copy(0, 3, 1, 0, 2), 2);
        rowIs(x, 1, 4, 5);
        due.is("35 none, behind", x.copy(0, 5, 1, 2, 0), 0);
        int[][] bad = {{0, 6, 0}, {0, 0, 3}, {4, 0, 2}, {0, 1, 2}, {-1, 0, 1}, {0, -1, 1}, {0, 0, -1}, {6, 0, 0},
            {0, 3, 0}, {Integer.MAX_VALUE, 0, 1}, {1, 0, Integer.MAX_VALUE}, {0, 0, Integer.MIN_VALUE}};
        for (int[] a : bad) {
            due.is("35 places", x.copy(0, a[0], 1, a[1], a[2]), -13);
        }
        due.is("35 shelf", x.copy(8, 0, 0, 0, 0), -1);
        due.is("35 shelf", x.copy(0, 0, -1, 0, 0), -1);
        due.is("35 nothing", x.copy(0, 0, 2, 0, 0), -11);
        due.is("35 nothing", x.copy(2, 0, 0, 0, 0), -11);
        x.keep(3, 1, 0);
        due.is("35 nothing counts first", x.copy(3, 0, 2, 0, 0), -11);
        due.is("35 a faller", x.copy(3, 0, 0, 0, 0), -12);
        due.is("35 a faller", x.copy(0, 0, 3, 0, 0), -12);
        x.row(4, 0, 9);
        due.is("35 another sort", x.copy(0, 0, 4, 0, 99), -12);
        rowIs(x, 1, 4, 5);
    }

    private static void cares() {
        TenYards x = ofAllKinds(7, 11);
        int[] cares = {10, 1, 17, 20, 21, 24, 70, 70};
        for (int kind = 0; kind < 8; kind++) {
            x.keep(0, 1, kind);
            due.is("36 of " + kind, x.care(0), cares[kind]);
        }
        TenYards y = ofAllKinds(0, 0);
        y.keep(0, 1, 6);
        due.is("36 downwind, 0", y.care(0), 0);
        refusedShelves(y);
    }

    private static void refusedShelves(TenYards x) {
        due.is("36 shelf", x.care(8), -1);
        due.is("37 shelf", x.toss(8), -1);
        due.is("36 shelf", x.care(-1), -1);
        due.is("37 shelf", x.toss(-1), -1);
        due.is("36 nothing", x.care(1), -11);
        due.is("37 nothing", x.toss(1), -11);
        x.row(1, 0, 0);
        due.is("36 a row", x.care(1), -12);
        due.is("37 a row", x.toss(1), -12);
    }

    private static void tosses() {
        TenYards x = ofAllKinds(7, 11);
        int[] numbers = {0, -15, 2, 3, 4, 105, 6, 270};
        for (int kind = 0; kind < 8; kind++) {
            x.keep(0, 1, kind);
            due.is("37 of " + kind, x.toss(0), numbers[kind]);
        }
        TenYards y = ofAllKinds(0, 11);
        for (int kind = 0; kind < 8; kind++) {
            y.keep(0, 1, kind);
            due.is("37 figure 0 of " + kind, y.toss(0), -15);
        }
        // The number is the FALLER's own, not its KIND's.
        TenYards z = Due.with("f61 0;f51 0;f51 0;f01 0;f71 0;");
        int[] own = {0, 101, 102, 3, 270};
        for (int faller = 0; faller < 5; faller++) {
            z.keep(0, 1, faller);
            due.is("37 of faller " + faller, z.toss(0), own[faller]);
        }
    }
}
