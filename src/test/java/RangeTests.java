/**
 * "-1 no such thing, a number out of range": each number of each call at its least and at its most, one below, one
 * above, and at the ends of all ints; and that "a refused call changes nothing". The numbers' names are the document's.
 */
public final class RangeTests {
    private static final int LOW = -1000000000;
    private static final String FALLER = " faller:0:7";
    private static final String SHELF = " d:0:7";
    private static final String PLACE = " x:-30000:30000 y:-30000:30000";
    private static final Due due = new Due();

    private interface Numbers {
        long ask(TenYards x, int[] a);
    }

    public static void main(String[] args) {
        airsAndFallers();
        falls();
        exitsAndLoads();
        whatCanStillBeHad();
        seeds();
        cratesAndHabits();
        shelves();
        fallersThatCame();
        due.end();
    }

    /** The call's numbers as name:least:most, with =usual where the middle won't do as the usual one. */
    private static void ranges(String call, long refusal, Numbers numbers, String told) {
        String[] names = told.trim().split(" +");
        int[][] edges = new int[names.length][];
        int[] usual = new int[names.length];
        for (int i = 0; i < names.length; i++) {
            String[] parts = names[i].split("[:=]");
            edges[i] = new int[] {Integer.parseInt(parts[1]), Integer.parseInt(parts[2])};
            usual[i] = parts.length > 3 ? Integer.parseInt(parts[3]) : (edges[i][0] + edges[i][1]) / 2;
        }
        for (int i = 0; i < names.length; i++) {
            String what = call + ", " + names[i];
            for (int good : edges[i]) {
                int[] a = changed(usual, i, good);
                due.isTrue(what + ": " + good + " is in range", numbers.ask(Meadow.full(), a) != refusal);
            }
            int[] bad = {edges[i][0] - 1, edges[i][1] + 1, Integer.MIN_VALUE, Integer.MAX_VALUE};
            for (int b : bad) {
                int[] a = changed(usual, i, b);
                Meadow.refuses(due, what + ": " + b + " is out of range", x -> numbers.ask(x, a), refusal);
            }
        }
    }

    private static int[] changed(int[] usual, int i, int to) {
        int[] a = usual.clone();
        a[i] = to;
        return a;
    }

    private static void airsAndFallers() {
        ranges("2 air", -1, (x, a) -> x.air(a[0]), SHELF);
        ranges("3 wind east", LOW - 1, (x, a) -> x.wind(a[0], false), "layer:0:9");
        ranges("3 wind north", LOW - 1, (x, a) -> x.wind(a[0], true), "layer:0:9");
        ranges("4 set", -1, (x, a) -> x.set(a[0], 300), "what:1:2=1");
        ranges("4 set GUST", -1, (x, a) -> x.set(0, a[0]), "n:0:30");
        ranges("4 set PLANE", -1, (x, a) -> x.set(1, a[0]), "n:0:900");
        ranges("4 set EXIT HEIGHT", -1, (x, a) -> x.set(2, a[0]), "n:300:3000");
        ranges("5 faller", -1, (x, a) -> x.faller(a[0], a[1]), FALLER + " what:0:5");
        ranges("6 drift", LOW - 1, (x, a) -> x.drift(a[0], a[1]), FALLER + " wind:-120:120");
        ranges("7 steers along x", LOW - 1, (x, a) -> x.steers(a[0], a[1], a[2], a[3], false),
                FALLER + PLACE + " layer:0:9");
        ranges("7 steers along y", LOW - 1, (x, a) -> x.steers(a[0], a[1], a[2], a[3], true),
                FALLER + PLACE + " layer:0:9");
        ranges("8 barred", -1, (x, a) -> x.barred(a[0], a[1]), PLACE);
    }

    private static void falls() {
        ranges("9 fall", LOW - 1, (x, a) -> x.fall(a[0], a[1], a[2], a[3]), FALLER + PLACE + " what:0:4");
        ranges("10 fallBy", LOW - 1, (x, a) -> x.fallBy(a[0], a[1], a[2], 7, a[3]), FALLER + PLACE + " what:0:4");
        ranges("11 at", LOW - 1, (x, a) -> x.at(a[0], a[1], a[2], a[3], a[4]), FALLER + PLACE + " n:0:400 what:0:2");
        ranges("12 mean east", LOW - 1, (x, a) -> x.mean(a[0], a[1], a[2], false), FALLER + PLACE);
        ranges("12 mean north", LOW - 1, (x, a) -> x.mean(a[0], a[1], a[2], true), FALLER + PLACE);
    }

    private static void exitsAndLoads() {
        ranges("13 exit", LOW - 1, (x, a) -> x.exit(a[0], a[1]), FALLER + " what:0:2");
        String shelf = SHELF + "=" + Meadow.CREW;
        ranges("14 load", -1, (x, a) -> x.load(a[0], a[1], a[2], a[3], a[4]), shelf + PLACE + " gap:1:20 n:0:60000");
        ranges("15 bestLoad", LOW - 1, (x, a) -> x.bestLoad(a[0], a[1], a[2], a[3]),
                shelf + " y:-30000:30000 n:0:60000 what:0:2");
        ranges("16 order", -1, (x, a) -> x.order(a[0], a[1], a[2], a[3], a[4]), shelf + PLACE + " gap:1:20 what:0:1");
    }

    private static void whatCanStillBeHad() {
        ranges("17 cone", -1, (x, a) -> x.cone(a[0], a[1], a[2]), FALLER + " height:1:3000 n:0:60000");
        ranges("18 steering", -1, (x, a) -> x.steering(a[0], a[1], a[2], a[3]), FALLER + PLACE + " what:0:1");
        ranges("19 last", -1, (x, a) -> x.last(a[0]), FALLER);
        ranges("20 safe", LOW - 1, (x, a) -> x.safe(a[0], a[1], a[2]), PLACE + " what:0:1");
    }

    private static void seeds() {
        String within = FALLER + PLACE + " m:0:60000 n:1:20";
        ranges("21 within", -1, (x, a) -> x.within(a[0], a[1], a[2], a[3], a[4], 7), within);
        ranges("22 stop", -1, (x, a) -> x.stop(a[0], a[1], a[2], a[3], a[4], 7), within);
        ranges("23 knew", LOW - 1, (x, a) -> x.knew(a[0], a[1], a[2], a[3]), FALLER + " other:0:7=4" + PLACE);
        ranges("24 two", -1, (x, a) -> x.two(a[0], a[1], a[2], a[3], a[4]),
                FALLER + " later:0:7=4 gap:1:20" + PLACE);
        // Seeds are any ints.
        int[] ends = {Integer.MIN_VALUE, -1, 0, Integer.MAX_VALUE};
        for (int z : ends) {
            due.isTrue("10 fallBy by " + z, Meadow.full().fallBy(0, 0, 0, z, 0) > LOW - 1);
            due.isTrue("21 within by " + z, Meadow.full().within(0, 0, 0, 0, 1, z) >= 0);
            due.isTrue("22 stop by " + z, Meadow.full().stop(0, 0, 0, 0, 1, z) != -1);
            due.isTrue("26 crates by " + z, Meadow.full().crates(5, 0, 0, z) >= 0);
        }
    }

    private static void cratesAndHabits() {
        ranges("25 habits", -1, (x, a) -> x.habits(0, a[0], a[1], a[2], a[3], a[4]),
                " fx:-30000:30000 fy:-30000:30000" + PLACE + " m:0:9999");
        // fo is 100 times the FIGURE (0 .. 9), and OPENS (0 .. 20).
        TenYards x = new TenYards();
        for (int figure = -2; figure <= 11; figure++) {
            int[] opens = {0, 20, 21, 99};
            for (int o : opens) {
                boolean isTold = figure >= 0 && figure <= 9 && o <= 20;
                int fo = 100 * figure + o;
                due.is("25 habits, fo: " + fo, x.habits(fo, 0, 0, 0, 0, 0) == -1 ? 0 : 1, isTold ? 1 : 0);
            }
        }
        int[] bad = {-1, 21, 99, 921, 1000, Integer.MIN_VALUE, Integer.MAX_VALUE, Integer.MIN_VALUE + 48};
        for (int fo : bad) {
            Meadow.refuses(due, "25 habits, fo: " + fo, y -> y.habits(fo, 0, 0, 0, 0, 0), -1);
        }
        ranges("26 crates", -1, (y, a) -> y.crates(a[0], a[1], a[2], 7), "n:1:5" + PLACE);
        ranges("27 judge", -1, (y, a) -> y.judge(a[0], a[1], a[2]), FALLER + " y:-30000:30000" + SHELF);
    }

    private static void shelves() {
        ranges("30 count", -1, (x, a) -> x.count(a[0]), "what:0:5");
        ranges("31 keep", -1, (x, a) -> x.keep(a[0], a[1], a[2]), SHELF + " what:0:1=1 k:0:7");
        ranges("32 row", -1, (x, a) -> x.row(a[0], a[1], 1), SHELF + " sort:0:2");
        ranges("33 put", -1, (x, a) -> x.put(a[0], 0, 1), SHELF);
        ranges("35 copy", -1, (x, a) -> x.copy(a[0], 0, a[1], 0, 0), SHELF + " e:0:7");
        ranges("36 care", -1, (x, a) -> x.care(a[0]), SHELF);
        ranges("37 toss", -1, (x, a) -> x.toss(a[0]), SHELF);
        // Element's refusals are thrown: 1 stands for IllegalArgumentException.
        ranges("34 element", 1, (x, a) -> Due.thrownBy(x, a[0], 0), SHELF);
        int[] tooMany = {101, 102, Integer.MAX_VALUE};
        for (int n : tooMany) {
            Meadow.refuses(due, "32 row, n above 100: " + n, x -> x.row(Meadow.CREW, 0, n), -1);
        }
        int[] below = {-1, -100, Integer.MIN_VALUE};
        for (int n : below) {
            Meadow.refuses(due, "32 row, a size below 0: " + n, x -> x.row(Meadow.CREW, 0, n), -14);
        }
        due.is("32 row of 0", Meadow.full().row(0, 0, 0), 0);
        due.is("32 row of 100", Meadow.full().row(0, 0, 100), 0);
    }

    /** A FALLER that has not come is no such thing, even where there is room for it. */
    private static void fallersThatCame() {
        for (int came = 0; came < 8; came++) {
            TenYards x = new TenYards();
            for (int k = 0; k < came; k++) {
                Due.read(x, "f00 0;");
            }
            due.is("5 the last that came of " + came, x.faller(came - 1, 0), came == 0 ? -1 : 0);
            due.is("5 the next after " + came, x.faller(came, 0), -1);
            due.is("9 the next after " + came, x.fall(came, 0, 0, 0), LOW - 1);
            due.is("13 the next after " + came, x.exit(came, 0), LOW - 1);
            due.is("19 the next after " + came, x.last(came), -1);
            due.is("31 the next after " + came, x.keep(0, 1, came), -1);
            Due.bytes(x, 0, came);
            due.is("14 the next after " + came, x.load(0, 0, 0, 1, 0), -13);
            due.is("15 the next after " + came, x.bestLoad(0, 0, 0, 0), LOW - 13);
            due.is("16 the next after " + came, x.order(0, 0, 0, 1, 0), -13);
        }
    }
}
