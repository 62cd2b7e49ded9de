/** Promises 21 to 27: seeds one after the other, just within and just not, what is held, and what is skipped. */
public final class SeedEdgeTests {
    private static final Due due = new Due();

    /** PAPERED ones that open at HEIGHT 20: they land where their only DRAW puts them. */
    private static final String ONE_DRAW = "a0 380;f10 3;";

    public static void main(String[] args) {
        withinJust();
        withinSeeds();
        withinOthers();
        stopsByOneDraw();
        stopsByHalf();
        stopsLeaveTheGust();
        knewAlongBoth();
        knewHeld();
        twosApart();
        twosAloft();
        twosHeld();
        twosByDraws();
        habitsJust();
        habitsOfKinds();
        cratesBySeeds();
        cratesHeld();
        judgedFirst();
        judgedSkips();
        judgedSizes();
        due.end();
    }

    // ---- seeds

    private static void withinJust() {
        // Seeds 0, 1, 2 land at -30, -28, 24.
        TenYards x = Due.with(ONE_DRAW + "g30;");
        int[] m = {0, 23, 24, 27, 28, 29, 30, 60000};
        int[] want = {0, 0, 1, 1, 2, 2, 3, 3};
        for (int i = 0; i < m.length; i++) {
            due.is("21 OFF no more than " + m[i], x.within(0, 0, 0, m[i], 3, 0), want[i]);
        }
        x.set(0, 0);
        due.is("21 OFF 0, m 0", x.within(0, 0, 0, 0, 20, 5), 20);
        due.is("21 OFF 1, m 0", x.within(0, 0, -1, 0, 20, 5), 0);
        due.is("21 the most OFF", x.within(0, -30000, 30000, 60000, 1, 5), 1);
        due.is("21 just not", x.within(0, -30000, 30000, 59999, 1, 5), 0);
    }

    private static void withinSeeds() {
        TenYards x = Due.with(ONE_DRAW + "g30;");
        due.is("21 one seed: z", x.within(0, 0, 0, 24, 1, 2), 1);
        due.is("21 one seed: z", x.within(0, 0, 0, 24, 1, 1), 0);
        due.is("21 z and 1, too", x.within(0, 0, 0, 24, 2, 1), 1);
        // Of the seeds -1 .. 18, each by itself.
        int sum = 0;
        for (int n = 1; n <= 20; n++) {
            sum += x.fallBy(0, 0, 0, n - 2, 3) <= 20 ? 1 : 0;
            due.is("21 of " + n + " seeds", x.within(0, 0, 0, 20, n, -1), sum);
        }
        // The seed behind the greatest int is the least: -22, then -30.
        due.is("21 seeds wrap around", x.within(0, 0, 0, 29, 2, Integer.MAX_VALUE), 1);
        due.is("21 seeds wrap around", x.within(0, 0, 0, 30, 2, Integer.MAX_VALUE), 2);
        due.is("21 seeds wrap around", x.within(0, 0, 0, 22, 1, Integer.MAX_VALUE), 1);
    }

    private static void withinOthers() {
        TenYards x = Due.with(ONE_DRAW + "g30;b-3000-3000+3000+3000;");
        due.is("21 BARRED ones too", x.within(0, 0, 0, 60000, 20, 1), 20);
        due.is("21 from x", x.within(0, 28, 0, 0, 1, 1), 1);
        due.is("21 from y", x.within(0, 28, 7, 6, 1, 1), 0);
        due.is("21 from y", x.within(0, 28, 7, 7, 1, 1), 1);
    }

    private static void stopsByOneDraw() {
        // Seed 0 lands at -GUST.
        TenYards x = Due.with(ONE_DRAW + "g30;");
        for (int m = 0; m <= 29; m++) {
            due.is("22 the least GUST: m " + m, x.stop(0, 0, 0, m, 1, 0), m + 1);
        }
        due.is("22 no GUST of 31", x.stop(0, 0, 0, 30, 1, 0), -4);
        due.is("22 none", x.stop(0, 0, 0, 60000, 20, 0), -4);
        due.is("22 GUST 0", x.stop(0, 0, 1, 0, 1, 0), 0);
        due.is("22 GUST 0", x.stop(0, 31, 0, 30, 20, 0), 0);
    }

    /** By the first DRAWS of the seeds from -1 on. */
    private static int stopByDraws(int m, int n) {
        for (int gust = 0; gust <= 30; gust++) {
            int within = 0;
            for (int i = 0; i < n; i++) {
                within += Math.abs(Draws.puff(Draws.FIRST[i], gust)) <= m ? 1 : 0;
            }
            if (within < n - within) {
                return gust;
            }
        }
        return -4;
    }

    private static void stopsByHalf() {
        for (int n = 1; n <= Draws.FIRST.length; n++) {
            TenYards x = Due.with(ONE_DRAW);
            for (int m = 0; m <= 30; m++) {
                due.is("22 fewer than half of " + n + ", m " + m, x.stop(0, 0, 0, m, n, -1), stopByDraws(m, n));
            }
        }
        // Seeds 0 and 1 with GUST 1 land at -1 and 16838 modulo 3 less 1, which is 1; seeds 1 and 2 at 1 and 1.
        // With GUST 2: -2, 1 (16838 modulo 5 is 3); of 0 and 1 just half are within 1, and that is enough.
        TenYards x = Due.with(ONE_DRAW);
        due.is("22 just half is not fewer", x.stop(0, 0, 0, 1, 2, 0) > 2 ? 1 : 0, 1);
        due.is("22 none of two is fewer", x.stop(0, 0, 0, 0, 2, 0), 1);
        // The seed behind the greatest int is the least, which lands at -GUST as seed 0 does.
        due.is("22 seeds wrap around", x.stop(0, 0, 0, 60000, 2, Integer.MAX_VALUE), -4);
        due.is("22 y counts", x.stop(0, 0, 5, 5, 1, 0), 1);
        due.is("22 x counts", x.stop(0, 5, 0, 5, 1, 0), 11);
    }

    private static void stopsLeaveTheGust() {
        TenYards x = Due.with(ONE_DRAW + "g17;");
        due.is("22 whatever GUST there is", x.stop(0, 0, 0, 4, 1, 0), 5);
        due.is("22 GUST stays", x.count(3), 17);
        due.is("22 none; GUST stays", x.stop(0, 0, 0, 60000, 1, 0), -4);
        due.is("22 GUST stays", x.count(3), 17);
        due.is("22 GUST stays in FALLS", x.fallBy(0, 0, 0, 0, 0), -17);
    }

    private static void knewAlongBoth() {
        // PAPERED ones go 150 east, 300 south; a STALLED one (10 SECONDS, DRIFTS 4, -8) 40 east, 80 south.
        TenYards x = Due.with("l0+10-20;l1+10-20;a0 300;f10 0;f10 0;f70 0;");
        due.is("23 from the CROSS", x.knew(0, 1, 0, 0), 450);
        due.is("23 from where it lands well", x.knew(0, 1, -150, 300), 0);
        due.is("23 along x and y", x.knew(0, 1, 1000, -2000), 1150 + 2300);
        due.is("23 below 0", x.knew(0, 2, -150, 300), -330);
        due.is("23 the other way", x.knew(2, 0, 0, 0), 120 - (110 + 220));
        due.is("23 -1000000001 (one twice, too)", x.knew(1, 1, 0, 0), -1000000001);
    }

    /** All LAYERS with one WIND. */
    private static TenYards everywhere(String wind, String rest) {
        TenYards x = new TenYards();
        for (int layer = 0; layer < 10; layer++) {
            Due.read(x, "l" + layer + wind);
        }
        Due.read(x, rest);
        return x;
    }

    private static void knewHeld() {
        // A LIGHT one is steered and blown more than 30000: the place less the landing is held to 30000.
        String[] winds = {"+0-90;", "+0+90;", "-90+0;", "+90+0;"};
        int[][] from = {{0, 30000}, {0, -30000}, {30000, 0}, {-30000, 0}};
        for (int i = 0; i < winds.length; i++) {
            TenYards x = everywhere(winds[i], "a0 3000;f20 0;f10 0;");
            int px = from[i][0];
            int py = from[i][1];
            int gone = Math.abs(px - x.fall(0, px, py, 0)) + Math.abs(py - x.fall(0, px, py, 1));
            due.isTrue("23 it goes farther than 30000", gone > 30000);
            // Held, the PAPERED one leaves from the same place once more.
            due.is("23 held as above", x.knew(1, 0, px, py), 0);
        }
    }

    private static void twosApart() {
        // GAP 1: a FALLER is 40 nearer along y, and 16 lower, as the PAPERED one leaves.
        TenYards x = Due.with("f00 0;f10 0;a0 300;");
        int[] ends = {-1000, 1000};
        for (int place : ends) {
            due.is("24 y without sign, HEIGHTS without sign", x.two(0, 1, 1, 0, place), 56);
            due.is("24 x without sign", x.two(0, 1, 1, place, 0), 56);
            due.is("24 GAP 3", x.two(0, 1, 3, 0, place), 3 * 56);
        }
        // The other one first: 20 lower as the FALLER leaves, then farther and farther off.
        due.is("24 as the later one leaves", x.two(1, 0, 1, 0, 1000), 20);
        due.is("24 -1 (one twice, too)", x.two(1, 1, 1, 0, 0), -1);
    }

    private static void twosAloft() {
        TenYards x = Due.with("f10 0;f10 0;a10 310;");
        // HEIGHTS 10 and 30, then 0 and 10: nearer, but one has LANDED.
        due.is("24 neither has LANDED", x.two(0, 1, 1, 0, 0), 30);
        // 16 SECONDS: with GAP 15 the first has one SECOND left as the later one leaves (HEIGHTS 10, 310).
        due.is("24 the last GAP", x.two(0, 1, 15, 0, 0), 150 + 300);
        due.is("24 LANDED as the later one leaves", x.two(0, 1, 16, 0, 0), -4);
        due.is("24 LANDED as the later one leaves", x.two(0, 1, 20, 0, 0), -4);
        x.set(2, 301);
        due.is("24 at HEIGHT 1 it has not LANDED", x.two(0, 1, 15, 0, 0), 150 + 300);
        x.set(2, 3000);
        due.is("24 GAP 20", x.two(0, 1, 20, 0, 0), 600);
        // The later one lands first: it FALLS (120) from 300, is at 180, 60, LANDED; the other one SINKS: 280, 260, 240.
        TenYards fast = Due.with("f10 0;f00 20;a0 300;");
        due.is("24 the later one lands first", fast.two(0, 1, 1, 0, 0), 20);
        due.is("24 the first one lands first", fast.two(1, 0, 2, 0, 0), 240);
        due.is("24 none", fast.two(1, 0, 3, 0, 0), -4);
        // A STALLED one comes after it by 11 a SECOND: HEIGHTS 200 and 300 as it leaves, 20 and 21 after 9 SECONDS.
        TenYards over = Due.with("f10 0;f70 0;a0 300;");
        due.is("24 at the end of any SECOND", over.two(0, 1, 5, 0, 0), 1);
    }

    private static void twosHeld() {
        TenYards x = Due.with("l0-10+0;l1-10+0;f10 0;f10 0;a10 300;");
        // The first is at 29990, 20 lower; the later one leaves from 30010, held: 30000.
        due.is("24 held", x.two(0, 1, 1, 30000, 0), 30);
        due.is("24 just held", x.two(0, 1, 1, 29990, 0), 10 + 10 + 20);
        due.is("24 not held", x.two(0, 1, 1, 0, 0), 10 + 10 + 20);
        x.set(1, 900);
        due.is("24 PLANE 900, GAP 14", x.two(0, 1, 14, -30000, 0), 14 * 900 + 14 * 20);
    }

    private static void twosByDraws() {
        // Each by its own DRAWS from z 1: the later one is 20 higher, and 10 further east less the last DRAW.
        TenYards x = Due.with("f10 0;f10 0;a10 300;g30;");
        int least = 30;
        for (int n = 0; n < 13; n++) {
            least = Math.min(least, 20 + Math.abs(10 - Draws.puff(Draws.OF_ONE[n], 30)));
        }
        due.is("24 z 1 for both", x.two(0, 1, 1, 0, 0), least);
        due.is("24 z 1 for both", least, 22);
    }

    // ---- a day, crates

    private static void habitsJust() {
        // Only PAPERED and STALLED ones (and DOWNWIND ones without WIND) land where they leave.
        TenYards x = Due.with("a0 300;");
        int stay = 2 + 64 + 128;
        int[] m = {0, 1, 9999};
        for (int give : m) {
            due.is("25 give or take along x", x.habits(0, -5000, 15000, -5000 + give, 15000, give) & stay, stay);
            due.is("25 give or take along x", x.habits(0, -5000, 15000, -5000 - give, 15000, give) & stay, stay);
            due.is("25 give or take along y", x.habits(0, -5000, 15000, -5000, 15000 + give, give) & stay, stay);
            due.is("25 give or take along y", x.habits(0, -5000, 15000, -5000, 15000 - give, give) & stay, stay);
            due.is("25 both along x and along y", x.habits(0, -5000, 15000, -5000 + give, 15000 - give, give) & stay, stay);
            due.is("25 one more along x", x.habits(0, -5000, 15000, -5001 - give, 15000, give) & stay, 0);
            due.is("25 one more along x", x.habits(0, -5000, 15000, -4999 + give, 15000, give) & stay, 0);
            due.is("25 one more along y", x.habits(0, -5000, 15000, -5000, 15001 + give, give) & stay, 0);
            due.is("25 one more along y", x.habits(0, -5000, 15000, -5000, 14999 - give, give) & stay, 0);
        }
        due.is("25 at the edge", x.habits(0, 30000, -30000, 30000, -30000, 0), stay);
        due.is("25 none", x.habits(0, 0, 0, 30000, 30000, 0), 0);
        due.is("25 all", x.habits(0, 0, 0, 0, 0, 0), 255);
        Due.read(x, "b-3000-3000+3000+3000;");
        due.is("25 BARRED ones too", x.habits(0, 0, 0, 0, 0, 0), 255);
    }

    private static void habitsOfKinds() {
        // FIGURE 9, OPENS 20 from 300: all land before they open, after 3 SECONDS.
        TenYards x = Due.with("a100 300;");
        due.is("25 OPENS 20", x.habits(20, 0, 0, 270, 0, 0), 255);
        due.is("25 FIGURE 9, OPENS 20", x.habits(920, 0, 0, 270, 0, 0), 255);
        due.is("25 OPENS 1: one SECOND of the PLANE", x.habits(1, 0, 0, 100, 0, 0) & 2 + 128, 2 + 128);
        // HOLDING and CRABBING ones of FIGURE 9 stay within 900; a DOWNWIND one goes 17 SECONDS by 67 with the WIND.
        due.is("25 FIGURE 9", x.habits(900, 0, 900, 0, 900, 0) & 16 + 32, 16 + 32);
        due.is("25 FIGURE 8", x.habits(800, 0, 900, 0, 900, 0) & 16 + 32, 0);
        Due.read(x, "l0+1+0;l1+1+0;");
        due.is("25 FIGURE 9, DOWNWIND", x.habits(900, 0, 0, 17 * 68, 0, 0), 64);
        // By z 1 a PAPERED one lands at -42.
        TenYards gusty = Due.with("a0 300;g30;");
        due.is("25 z 1", gusty.habits(0, 0, 0, -42, 0, 0) & 2, 2);
        due.is("25 z 1", gusty.habits(0, 0, 0, -43, 0, 0) & 2, 0);
    }

    private static void cratesBySeeds() {
        TenYards x = Due.with("a900 300;g30;");
        int[] seeds = {0, 1, -3, Integer.MAX_VALUE - 1, Integer.MIN_VALUE};
        for (int z : seeds) {
            int least = Integer.MAX_VALUE;
            int most = Integer.MIN_VALUE;
            for (int n = 1; n <= 5; n++) {
                int at = Draws.puffs(z + n - 1, 30, 14);
                least = Math.min(least, at);
                most = Math.max(most, at);
                due.is("26 " + n + " by seeds from " + z, x.crates(n, 0, 0, z), most - least);
            }
        }
        due.is("26 one is apart from none", x.crates(1, 30000, -30000, 1), 0);
        due.is("26 no sixth", x.crates(6, 0, 0, 1), -1);
        x.set(0, 0);
        due.is("26 without GUST all land at one place", x.crates(5, 7, 7, 1), 0);
        // FIGURE 0, OPENS 0, 20 feet a SECOND: from 340 still 14 SECONDS in LAYER 0.
        x.set(0, 30);
        x.set(2, 340);
        due.is("26 PAPERED ones, OPENS 0", x.crates(2, 0, 0, 4), Math.abs(Draws.puffs(4, 30, 14) - Draws.puffs(5, 30, 14)));
    }

    private static int heldPuffs(int from, int z) {
        int at = from;
        for (int i = 0; i < 14; i++) {
            int puff = Draws.puffs(z, 30, i + 1) - Draws.puffs(z, 30, i);
            at = Math.max(-30000, Math.min(at + puff, 30000));
        }
        return at;
    }

    private static void cratesHeld() {
        TenYards x = Due.with("a0 300;g30;");
        int[] edges = {-30000, 30000};
        for (int edge : edges) {
            for (int z = 0; z < 12; z += 2) {
                int apart = Math.abs(heldPuffs(edge, z) - heldPuffs(edge, z + 1));
                due.is("26 held at the edge, by seeds from " + z, x.crates(2, edge, 0, z), apart);
            }
        }
        due.is("26 y at the edge", x.crates(2, 0, 30000, 4), Math.abs(Draws.puffs(4, 30, 14) - Draws.puffs(5, 30, 14)));
    }

    private static void judgedFirst() {
        TenYards x = Due.with("f10 0;a0 300;");
        Due.rowOf(x, 0, 2, 5, 1005, 2005, 3005);
        due.is("27 all are so", x.judge(0, 5, 0), -4);
        due.is("27 y without sign", x.judge(0, -5, 0), -4);
        for (int i = 3; i >= 0; i--) {
            x.put(0, i, 1000 * i + 6);
            due.is("27 the first that isn't so", x.judge(0, 5, 0), i);
        }
        Due.rowOf(x, 0, 2, 5, 1005, -2005, 3005);
        due.is("27 a sign is not so", x.judge(0, 5, 0), 2);
        Due.rowOf(x, 0, 2, 30000, 31000);
        due.is("27 y 30000", x.judge(0, 30000, 0), -4);
        due.is("27 y -30000", x.judge(0, -30000, 0), -4);
        Due.read(x, "g30;");
        Due.rowOf(x, 0, 2, 42, 958);
        due.is("27 z 1", x.judge(0, 0, 0), -4);
    }

    private static void judgedSkips() {
        TenYards x = Due.with("f10 0;a0 300;");
        int[] least = {-128, -32768, Integer.MIN_VALUE};
        for (int sort = 0; sort < 3; sort++) {
            Due.rowOf(x, 0, sort, least[sort], least[sort], least[sort]);
            due.is("27 the least number of SORT " + sort + " is skipped", x.judge(0, 5, 0), -4);
            x.put(0, 1, least[sort] + 1);
            due.is("27 the next is not, SORT " + sort, x.judge(0, 5, 0), 1);
        }
        Due.rowOf(x, 0, 1, 5, -128);
        due.is("27 a byte's least among shorts", x.judge(0, 5, 0), 1);
        Due.rowOf(x, 0, 2, 5, -32768);
        due.is("27 a short's least among ints", x.judge(0, 5, 0), 1);
        // What was put in kept its lowest bits: 128 is the least of bytes.
        Due.rowOf(x, 0, 0, 128, 5);
        due.is("27 128 in a ROW of bytes", x.judge(0, 5, 0), 1);
        Due.rowOf(x, 0, 0, 127);
        due.is("27 the most of bytes", x.judge(0, 127, 0), -4);
        Due.rowOf(x, 0, 1, 30000, 31000, 32000);
        due.is("27 shorts", x.judge(0, 30000, 0), -4);
    }

    private static void judgedSizes() {
        TenYards x = Due.with("f10 0;a0 300;");
        x.row(0, 2, 0);
        due.is("27 an empty ROW", x.judge(0, 0, 0), -4);
        x.row(0, 2, 1);
        due.is("27 one, 0 at first", x.judge(0, 0, 0), -4);
        due.is("27 one, 0 at first", x.judge(0, 1, 0), 0);
        x.row(0, 2, 31);
        for (int i = 0; i < 31; i++) {
            x.put(0, i, 1000 * i);
        }
        due.is("27 31 of them, x up to 30000", x.judge(0, 0, 0), -4);
        x.put(0, 30, 29999);
        due.is("27 the last of 31", x.judge(0, 0, 0), 30);
        x.row(0, 2, 32);
        due.is("27 more than 31", x.judge(0, 0, 0), -13);
        x.row(0, 2, 100);
        due.is("27 more than 31", x.judge(0, 0, 0), -13);
    }
}
