/**
 * "Answers of several refusals are the first one as they are told at the call", and "a refused call changes nothing":
 * for each call each of its refusals from -2 on, alone and together with those told behind it.
 */
public final class RefusalTests {
    private static final int LOW = -1000000000;
    private static final Due due = new Due();

    public static void main(String[] args) {
        airs();
        loads();
        judges();
        noneOfThem();
        images();
        rowsAndPlaces();
        elements();
        copies();
        caresAndTosses();
        outOfRangeComesFirst();
        due.end();
    }

    private static void refused(String what, Meadow.Call call, long want) {
        Meadow.refuses(due, what, call, want);
    }

    private static void airs() {
        refused("2 -11: nothing is held", x -> x.air(Meadow.NOTHING), -11);
        refused("2 -12: a FALLER", x -> x.air(Meadow.A_FALLER), -12);
        refused("2 -12: no ROW of bytes but shorts", x -> x.air(Meadow.SHORTS), -12);
        refused("2 -12: no ROW of bytes but ints", x -> x.air(Meadow.INTS), -12);
        refused("2 with a FAULT of kind 1 nothing comes", x -> x.air(Meadow.FORM_FAULT), -1010);
        refused("2 with a FAULT of kind 2 nothing comes", x -> x.air(Meadow.NUMBER_FAULT), -2027);
        refused("2 at least one STATEMENT", x -> x.air(Meadow.EMPTY_ROW), -1000);
    }

    private static void loads() {
        int[][] shelves = {{Meadow.NOTHING, -11}, {Meadow.A_FALLER, -12}, {Meadow.SHORTS, -12}, {Meadow.INTS, -12},
            {Meadow.FORM_FAULT, -13}, {Meadow.EMPTY_ROW, -13}};
        for (int[] s : shelves) {
            refused("14 " + s[1], x -> x.load(s[0], 0, 0, 1, 0), s[1]);
            refused("15 " + s[1], x -> x.bestLoad(s[0], 0, 0, 0), LOW + s[1]);
            refused("16 " + s[1], x -> x.order(s[0], 0, 0, 1, 0), s[1]);
        }
        int[][] rows = {{0, 0, 0, 0, 0, 0}, {8}, {-1}, {0, 0, 0, 0, 127}, {-128, 0}, {}};
        for (int[] row : rows) {
            TenYards x = Meadow.full();
            Due.bytes(x, 3, row);
            String before = Meadow.airOf(x);
            due.is("14 -13 of " + row.length, x.load(3, 0, 0, 1, 0), -13);
            due.is("15 -13 of " + row.length, x.bestLoad(3, 0, 0, 0), LOW - 13);
            due.is("16 -13 of " + row.length, x.order(3, 0, 0, 1, 0), -13);
            due.isTrue("14 -13 changes nothing", before.equals(Meadow.airOf(x)));
            // Of another SORT it is -12 first, wherever -13 would do, too.
            Due.rowOf(x, 3, 1, row);
            due.is("14 -12 ahead of -13", x.load(3, 0, 0, 1, 0), -12);
            due.is("15 -12 ahead of -13", x.bestLoad(3, 0, 0, 0), LOW - 12);
            due.is("16 -12 ahead of -13", x.order(3, 0, 0, 1, 0), -12);
        }
    }

    private static void judges() {
        refused("27 -11", x -> x.judge(0, 0, Meadow.NOTHING), -11);
        refused("27 -12: no ROW", x -> x.judge(0, 0, Meadow.A_FALLER), -12);
        refused("27 -13: more than 31 elements", x -> x.judge(0, 0, Meadow.NUMBER_FAULT), -13);
        refused("27 -1 ahead of -11", x -> x.judge(8, 0, Meadow.NOTHING), -1);
        refused("27 -1 ahead of -12", x -> x.judge(0, 30001, Meadow.A_FALLER), -1);
        refused("27 -1 ahead of -13", x -> x.judge(0, -30001, Meadow.NUMBER_FAULT), -1);
    }

    private static void noneOfThem() {
        refused("22 -4: with no GUST", x -> x.stop(0, 0, 0, 60000, 20, 1), -4);
        refused("24 -4: there is none", x -> {
            x.set(2, 300);
            int answer = x.two(3, 4, 20, 0, 0);
            x.set(2, 1800);
            return answer;
        }, -4);
        refused("27 -4: all of none is so", x -> x.judge(0, 0, Meadow.EMPTY_ROW), -4);
        refused("23 one twice", x -> x.knew(3, 3, 0, 0), LOW - 1);
        refused("24 one twice", x -> x.two(3, 3, 1, 0, 0), -1);
        TenYards all = Due.with("b-3000-3000+3000+3000;");
        due.is("20 -4: there is none, x", all.safe(0, 0, 0), LOW - 4);
        due.is("20 -4: there is none, y", all.safe(0, 0, 1), LOW - 4);
        due.is("20 -1 ahead of -4", all.safe(30001, 0, 0), LOW - 1);
        due.is("20 -1 ahead of -4", all.safe(0, 0, 2), LOW - 1);
    }

    private static void images() {
        TenYards x = Due.with("l0+5-5;g3;f21 4;b+1+1+2+2;");
        String before = Meadow.airOf(x);
        due.is("29 -3: there is none", x.restore(), -3);
        due.isTrue("29 -3 changes nothing", before.equals(Meadow.airOf(x)));
        due.is("29 -3 takes none", x.restore(), -3);
        // What an AIR changes is no IMAGE.
        Due.read(x, "g4;");
        due.is("29 -3 still", x.restore(), -3);
    }

    private static void rowsAndPlaces() {
        refused("32 -1 (shelf) ahead of -14", x -> x.row(8, 0, -1), -1);
        refused("32 -1 (sort) ahead of -14", x -> x.row(0, 3, -1), -1);
        refused("32 -1 (sort) ahead of -14", x -> x.row(0, -1, Integer.MIN_VALUE), -1);
        refused("33 -11", x -> x.put(Meadow.NOTHING, 0, 1), -11);
        refused("33 -12", x -> x.put(Meadow.A_FALLER, 0, 1), -12);
        refused("33 -11 ahead of -13", x -> x.put(Meadow.NOTHING, -1, 1), -11);
        refused("33 -12 ahead of -13", x -> x.put(Meadow.A_FALLER, 100, 1), -12);
        refused("33 -1 ahead of -13", x -> x.put(-1, -1, 1), -1);
        int[] crewPlaces = {-1, 3, 99, 100, Integer.MIN_VALUE, Integer.MAX_VALUE};
        for (int i : crewPlaces) {
            refused("33 -13: a place that isn't there: " + i, x -> x.put(Meadow.CREW, i, 1), -13);
        }
        refused("33 -13: an empty ROW has no places", x -> x.put(Meadow.EMPTY_ROW, 0, 1), -13);
    }

    /** Thrown: 1 IllegalArgumentException, 2 IllegalStateException. */
    private static void elements() {
        int[] noShelves = {-1, 8, Integer.MIN_VALUE, Integer.MAX_VALUE};
        for (int d : noShelves) {
            refused("34 no such SHELF: " + d, x -> Due.thrownBy(x, d, 0), 1);
            refused("34 no such SHELF ahead of no such place", x -> Due.thrownBy(x, d, -1), 1);
        }
        refused("34 no ROW: nothing", x -> Due.thrownBy(x, Meadow.NOTHING, 0), 2);
        refused("34 no ROW: a FALLER", x -> Due.thrownBy(x, Meadow.A_FALLER, 0), 2);
        int[] noPlaces = {-1, 3, 100, Integer.MIN_VALUE, Integer.MAX_VALUE};
        for (int i : noPlaces) {
            refused("34 no such place: " + i, x -> Due.thrownBy(x, Meadow.CREW, i), 2);
        }
        refused("34 no such place in an empty ROW", x -> Due.thrownBy(x, Meadow.EMPTY_ROW, 0), 2);
    }

    private static void copies() {
        int row = Meadow.CREW;
        refused("35 -11: nothing to take from", x -> x.copy(Meadow.NOTHING, 0, row, 0, 1), -11);
        refused("35 -11: nothing to come to", x -> x.copy(row, 0, Meadow.NOTHING, 0, 1), -11);
        refused("35 -11 (either) ahead of -12", x -> x.copy(Meadow.A_FALLER, 0, Meadow.NOTHING, 0, 1), -11);
        refused("35 -11 (either) ahead of -12", x -> x.copy(Meadow.NOTHING, 0, Meadow.A_FALLER, 0, 1), -11);
        refused("35 -1 ahead of -11", x -> x.copy(Meadow.NOTHING, 0, 8, 0, 1), -1);
        refused("35 -1 ahead of -11", x -> x.copy(-1, 0, Meadow.NOTHING, 0, 1), -1);
        refused("35 -12: from a FALLER", x -> x.copy(Meadow.A_FALLER, 0, row, 0, 0), -12);
        refused("35 -12: to a FALLER", x -> x.copy(row, 0, Meadow.A_FALLER, 0, 0), -12);
        refused("35 -12: two FALLERS", x -> x.copy(Meadow.A_FALLER, 0, Meadow.A_FALLER, 0, 0), -12);
        refused("35 -12: bytes, shorts", x -> x.copy(row, 0, Meadow.SHORTS, 0, 1), -12);
        refused("35 -12: ints, bytes", x -> x.copy(Meadow.INTS, 0, row, 0, 1), -12);
        refused("35 -12: shorts, ints", x -> x.copy(Meadow.SHORTS, 0, Meadow.INTS, 0, 1), -12);
        refused("35 -12 ahead of -13", x -> x.copy(row, -1, Meadow.SHORTS, 99, -1), -12);
        int to = Meadow.FORM_FAULT;
        int[][] bad = {{-1, 0, 1}, {3, 0, 1}, {0, 0, 4}, {1, 0, 3}, {0, -1, 1}, {0, 10, 1}, {0, 8, 3}, {0, 0, -1},
            {4, 0, 0}, {0, 11, 0}, {-1, 0, 0}, {0, -1, 0}, {Integer.MAX_VALUE, 0, 1}, {0, Integer.MAX_VALUE, 1},
            {1, 0, Integer.MAX_VALUE}, {0, 1, Integer.MAX_VALUE}, {Integer.MIN_VALUE, 0, 1},
            {0, Integer.MIN_VALUE, 1}, {0, 0, Integer.MIN_VALUE}, {Integer.MAX_VALUE, Integer.MAX_VALUE, Integer.MAX_VALUE}};
        for (int[] a : bad) {
            refused("35 -13: " + a[0] + ", " + a[1] + ", " + a[2], x -> x.copy(row, a[0], to, a[1], a[2]), -13);
        }
    }

    private static void caresAndTosses() {
        refused("36 -11", x -> x.care(Meadow.NOTHING), -11);
        refused("37 -11", x -> x.toss(Meadow.NOTHING), -11);
        int[] rows = {Meadow.CREW, Meadow.SHORTS, Meadow.INTS, Meadow.EMPTY_ROW};
        for (int d : rows) {
            refused("36 -12 (a ROW)", x -> x.care(d), -12);
            refused("37 -12 (a ROW)", x -> x.toss(d), -12);
        }
        TenYards papers = Due.with("f19 0;");
        papers.keep(0, 1, 0);
        due.is("37 -15: PAPERED ones have none", papers.toss(0), -15);
        due.is("37 -15 changes nothing", papers.care(0), 1);
    }

    /** Each number out of range goes ahead of what is wrong with the SHELF. */
    private static void outOfRangeComesFirst() {
        int[] wrong = {Meadow.NOTHING, Meadow.A_FALLER, Meadow.EMPTY_ROW};
        for (int d : wrong) {
            refused("14 -1 (x) first", x -> x.load(d, 30001, 0, 1, 0), -1);
            refused("14 -1 (y) first", x -> x.load(d, 0, -30001, 1, 0), -1);
            refused("14 -1 (GAP) first", x -> x.load(d, 0, 0, 0, 0), -1);
            refused("14 -1 (n) first", x -> x.load(d, 0, 0, 1, 60001), -1);
            refused("15 -1 (y) first", x -> x.bestLoad(d, 30001, 0, 0), LOW - 1);
            refused("15 -1 (n) first", x -> x.bestLoad(d, 0, -1, 0), LOW - 1);
            refused("15 -1 (what) first", x -> x.bestLoad(d, 0, 0, 3), LOW - 1);
            refused("16 -1 (x) first", x -> x.order(d, -30001, 0, 1, 0), -1);
            refused("16 -1 (y) first", x -> x.order(d, 0, 30001, 1, 0), -1);
            refused("16 -1 (GAP) first", x -> x.order(d, 0, 0, 21, 0), -1);
            refused("16 -1 (what) first", x -> x.order(d, 0, 0, 1, 2), -1);
        }
    }
}
