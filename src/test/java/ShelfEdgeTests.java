/** Promises 1 and 28 to 37: a new object, THE IMAGE, what is told, SHELVES full, empty, overwritten, and their bits. */
public final class ShelfEdgeTests {
    private static final int LOW = -1000000000;
    private static final Due due = new Due();

    public static void main(String[] args) {
        newObject();
        imagesOfAll();
        imagesOfFull();
        imagesAgain();
        imagesWithoutShelves();
        counts();
        keeps();
        keptFallersStay();
        rowsAnew();
        rowsOnEachShelf();
        putsKeepLowestBits();
        putsElsewhereChangeNothing();
        elementsAtTheEnds();
        copiesOverlap();
        copiesOfNone();
        copiesOfAll();
        cares();
        tosses();
        tossesOfFallersNumbers();
        due.end();
    }

    // ---- a new object

    private static void newObject() {
        TenYards x = new TenYards();
        due.is("1 no FALLERS", x.count(0), 0);
        due.is("1 no BARRED boxes", x.count(1), 0);
        due.is("1 no WIND", x.count(2), 0);
        due.is("1 GUST 0 at first", x.count(3), 0);
        due.is("1 PLANE 400 at first", x.count(4), 400);
        due.is("1 EXIT HEIGHT 2000 at first", x.count(5), 2000);
        due.is("1 no IMAGE", x.restore(), -3);
        for (int k = 0; k < 8; k++) {
            due.is("1 no FALLER " + k, x.faller(k, 0), -1);
            due.is("1 SHELF " + k + " holds nothing at first", x.care(k), -11);
            due.is("1 SHELF " + k + " holds nothing at first", x.put(k, 0, 0), -11);
        }
        for (int layer = 0; layer < 10; layer++) {
            due.is("1 no WIND, EAST", x.wind(layer, false), 0);
            due.is("1 no WIND, NORTH", x.wind(layer, true), 0);
        }
        // Objects share nothing.
        Due.read(x, "l0+1+1;g5;a1 300;f00 0;b+0+0+0+0;");
        x.image();
        TenYards other = new TenYards();
        due.isTrue("1 another new object", Meadow.airOf(other).equals(Meadow.airOf(new TenYards())));
        due.is("1 another new object", other.restore(), -3);
        due.is("1 another new object", other.care(7), -11);
    }

    // ---- the image, what is told

    private static final String FULL = "b+1+1+2+2;b+3+3+4+4;b+5+5+6+6;b+7+7+8+8;b+9+9+10+10;b+11+11+12+12;";

    private static void imagesOfAll() {
        String[] changes = {"l0+0+0;", "l5+1+0;", "l9+3+4;", "g30;", "a6 308;", "a7 307;", "f00 0;", "b+3+3+4+4;"};
        for (String change : changes) {
            restoredAfter(change, x -> Due.read(x, change));
        }
        restoredAfter("set GUST", x -> x.set(0, 0));
        restoredAfter("set PLANE", x -> x.set(1, 900));
        restoredAfter("set EXIT HEIGHT", x -> x.set(2, 3000));
    }

    private static void restoredAfter(String change, Meadow.Call call) {
        TenYards x = Due.with("l0+1-2;l9+3-4;g5;a6 307;f18 9;b+1+1+2+2;");
        String before = Meadow.airOf(x);
        due.is("28 how many FALLERS", x.image(), 1);
        due.isTrue("28 THE IMAGE changes nothing else", before.equals(Meadow.airOf(x)));
        call.ask(x);
        due.isTrue("29 changed: " + change, !before.equals(Meadow.airOf(x)));
        due.is("29 how many FALLERS", x.restore(), 1);
        due.isTrue("29 all is as it was then: " + change, before.equals(Meadow.airOf(x)));
    }

    private static void imagesOfFull() {
        TenYards x = Due.with("f00 0;f11 1;f22 2;f33 3;f44 4;f55 5;f66 6;f77 7;", FULL);
        due.is("28 eight FALLERS", x.image(), 8);
        due.is("29 eight FALLERS", x.restore(), 8);
        for (int k = 0; k < 8; k++) {
            for (int what = 0; what < 3; what++) {
                due.is("29 FALLER " + k, x.faller(k, what), k);
            }
        }
        due.is("29 six boxes", x.count(1), 6);
        for (int box = 0; box < 6; box++) {
            due.is("29 box " + box, x.barred(20 * box + 15, 20 * box + 15), 1);
            due.is("29 between boxes", x.barred(20 * box + 25, 20 * box + 25), 0);
        }
        due.is("29 full as before", Due.read(x, "f00 0;"), -2000);
        due.is("29 full as before", Due.read(x, "b+1+1+1+1;"), -2000);
        // The IMAGE of none makes room again, and the boxes that were there are gone.
        TenYards y = new TenYards();
        due.is("28 no FALLERS", y.image(), 0);
        Due.read(y, "f77 7;f77 7;f77 7;f77 7;f77 7;f77 7;f77 7;f77 7;");
        Due.read(y, FULL);
        due.is("29 no FALLERS", y.restore(), 0);
        due.is("29 no FALLER", y.faller(0, 0), -1);
        due.is("29 no box", y.barred(15, 15), 0);
        due.is("29 room again", Due.read(y, "f00 0;f00 0;f00 0;f00 0;f00 0;f00 0;f00 0;f00 0;"), 8);
        due.is("29 room again", Due.read(y, FULL), 6);
    }

    private static void imagesAgain() {
        TenYards x = Due.with("g1;");
        x.image();
        x.set(0, 2);
        due.is("29 once", x.restore(), 0);
        x.set(0, 3);
        due.is("29 twice", x.restore(), 0);
        due.is("29 twice", x.count(3), 1);
        // What comes after RESTORED is not in the IMAGE.
        Due.read(x, "f00 0;l3+3+3;b+1+1+2+2;");
        x.restore();
        due.is("29 the IMAGE stays as it was", x.count(0), 0);
        due.is("29 the IMAGE stays as it was", x.count(1), 0);
        due.is("29 the IMAGE stays as it was", x.wind(3, true), 0);
        x.set(0, 4);
        due.is("28 a later one", x.image(), 0);
        x.set(0, 5);
        x.restore();
        due.is("29 the later IMAGE", x.count(3), 4);
        // A FAULT between changes neither.
        Due.read(x, "g9;g31;");
        x.restore();
        due.is("29 a FAULT between", x.count(3), 4);
    }

    private static void imagesWithoutShelves() {
        TenYards x = Due.with("f21 4;");
        Due.rowOf(x, 0, 1, 5, 6);
        x.keep(1, 1, 0);
        x.image();
        x.put(0, 0, 7);
        x.keep(1, 0, 0);
        Due.rowOf(x, 2, 2, 8);
        x.restore();
        due.is("29 but SHELVES: a ROW stays", x.element(0, 0), 7);
        due.is("29 but SHELVES: nothing stays nothing", x.care(1), -11);
        due.is("29 but SHELVES: a later ROW stays", x.element(2, 0), 8);
    }

    private static void counts() {
        for (int n = 0; n <= 8; n++) {
            TenYards x = new TenYards();
            for (int k = 0; k < n; k++) {
                Due.read(x, "f00 0;");
            }
            due.is("30 FALLERS", x.count(0), n);
        }
        for (int n = 0; n <= 6; n++) {
            TenYards x = new TenYards();
            for (int k = 0; k < n; k++) {
                Due.read(x, "b+1+1+1+1;");
            }
            due.is("30 BARRED boxes", x.count(1), n);
        }
        TenYards x = new TenYards();
        for (int layer = 0; layer < 10; layer++) {
            Due.read(x, "l" + layer + (layer % 2 == 0 ? "+0-1;" : "-1+0;"));
            due.is("30 LAYERS with a WIND, EAST or NORTH", x.count(2), layer + 1);
        }
        Due.read(x, "l0+0+0;l9-0-0;");
        due.is("30 LAYERS with a WIND", x.count(2), 8);
        x.set(0, 30);
        x.set(1, 900);
        x.set(2, 3000);
        due.is("30 GUST", x.count(3), 30);
        due.is("30 PLANE", x.count(4), 900);
        due.is("30 EXIT HEIGHT", x.count(5), 3000);
        due.is("30 -1 for others", x.count(6), -1);
        due.is("30 -1 for others", x.count(-1), -1);
    }

    // ---- shelves

    private static void keeps() {
        TenYards x = Due.with("f21 0;f00 0;f00 0;f00 0;f00 0;f00 0;f00 0;f29 0;");
        for (int d = 0; d < 8; d++) {
            due.is("31 FALLER 0", x.keep(d, 1, 0), 0);
            due.is("31 FALLER 0", x.care(d), 11);
            due.is("31 FALLER 7", x.keep(d, 1, 7), 0);
            due.is("31 FALLER 7", x.care(d), 19);
            due.is("31 no FALLER 8", x.keep(d, 1, 8), -1);
            due.is("31 a refused call changes nothing", x.care(d), 19);
            due.is("31 nothing", x.keep(d, 0, 0), 0);
            due.is("31 nothing", x.care(d), -11);
            due.is("31 nothing once more", x.keep(d, 0, 0), 0);
        }
        int[] any = {-1, 8, Integer.MIN_VALUE, Integer.MAX_VALUE};
        for (int k : any) {
            x.row(0, 0, 1);
            due.is("31 nothing, whatever k is", x.keep(0, 0, k), 0);
            due.is("31 nothing", x.put(0, 0, 0), -11);
        }
        x.row(0, 0, 3);
        due.is("31 a FALLER in a ROW's place", x.keep(0, 1, 7), 0);
        due.is("31 the ROW is gone", x.put(0, 0, 0), -12);
        due.is("31 the ROW is gone", Due.thrownBy(x, 0, 0), 2);
        due.is("32 a ROW in a FALLER's place", x.row(0, 0, 3), 0);
        due.is("32 the FALLER is gone", x.care(0), -12);
    }

    private static void keptFallersStay() {
        TenYards x = new TenYards();
        x.image();
        Due.read(x, "f21 0;f52 3;");
        x.keep(0, 1, 0);
        x.keep(1, 1, 1);
        x.restore();
        due.is("29 but SHELVES: a FALLER stays", x.care(0), 11);
        due.is("29 but SHELVES: a FALLER stays", x.care(1), 16);
        due.is("29 but SHELVES: a FALLER stays", x.toss(1), 101);
        due.is("31 it is no FALLER any more", x.keep(2, 1, 0), -1);
        Due.read(x, "f39 0;");
        due.is("29 another FALLER 0 comes: the one on the SHELF stays", x.care(0), 11);
        x.keep(0, 1, 0);
        due.is("31 the new FALLER 0", x.care(0), 20);
    }

    private static void rowsAnew() {
        for (int sort = 0; sort < 3; sort++) {
            TenYards x = new TenYards();
            due.is("32 100 elements", x.row(3, sort, 100), 0);
            for (int i = 0; i < 100; i++) {
                due.is("32 0 at first", x.element(3, i), 0);
                x.put(3, i, i + 1);
            }
            due.is("32 more than 100", x.row(3, sort, 101), -1);
            due.is("32 a size below 0", x.row(3, sort, -1), -14);
            due.is("32 a refused call changes nothing", x.element(3, 99), 100);
            due.is("32 anew", x.row(3, sort, 2), 0);
            due.is("32 0 at first", x.element(3, 0), 0);
            due.is("32 0 at first", x.element(3, 1), 0);
            due.is("32 two of them", Due.thrownBy(x, 3, 2), 2);
            due.is("32 longer again", x.row(3, sort, 4), 0);
            due.is("32 0 at first", x.element(3, 2), 0);
            due.is("32 0 at first", x.element(3, 3), 0);
            due.is("32 no elements", x.row(3, sort, 0), 0);
            due.is("32 no elements", Due.thrownBy(x, 3, 0), 2);
            due.is("32 a ROW all the same", x.care(3), -12);
        }
        // A ROW of another SORT.
        TenYards x = new TenYards();
        Due.rowOf(x, 0, 2, 1000);
        due.is("32 another SORT", x.row(0, 0, 1), 0);
        x.put(0, 0, 1000);
        due.is("32 another SORT", x.element(0, 0), (byte) 1000);
    }

    private static void rowsOnEachShelf() {
        TenYards x = new TenYards();
        for (int d = 0; d < 8; d++) {
            due.is("32 SHELF " + d, x.row(d, d % 3, d + 1), 0);
            due.is("33 SHELF " + d, x.put(d, d, d + 10), 0);
        }
        for (int d = 0; d < 8; d++) {
            due.is("34 SHELF " + d, x.element(d, d), d + 10);
            due.is("34 SHELF " + d, d == 0 ? 0 : x.element(d, d - 1), 0);
            due.is("34 SHELF " + d, Due.thrownBy(x, d, d + 1), 2);
        }
    }

    private static void putsKeepLowestBits() {
        int[] values = {0, 127, 128, 129, 255, 256, -1, -128, -129, 32767, 32768, 65535, 65536, -32768, -32769,
            Integer.MAX_VALUE, Integer.MIN_VALUE};
        int[] asByte = {0, 127, -128, -127, -1, 0, -1, -128, 127, -1, 0, -1, 0, 0, -1, -1, 0};
        int[] asShort = {0, 127, 128, 129, 255, 256, -1, -128, -129, 32767, -32768, -1, 0, -32768, 32767, -1, 0};
        for (int i = 0; i < values.length; i++) {
            int[] want = {asByte[i], asShort[i], values[i]};
            TenYards x = new TenYards();
            for (int sort = 0; sort < 3; sort++) {
                x.row(sort, sort, 1);
                due.is("33 answers 0", x.put(sort, 0, values[i]), 0);
                due.is("33 what is put in keeps its lowest bits: " + values[i], x.element(sort, 0), want[sort]);
            }
        }
    }

    private static void putsElsewhereChangeNothing() {
        TenYards x = new TenYards();
        Due.rowOf(x, 0, 0, 1, 2, 3);
        x.put(0, 1, 9);
        rowIs("33 one element", x, 0, 1, 9, 3);
        x.put(0, 2, 8);
        x.put(0, 0, 7);
        rowIs("33 the last, the first", x, 0, 7, 9, 8);
        due.is("33 one behind the last", x.put(0, 3, 1), -13);
        due.is("33 one ahead of the first", x.put(0, -1, 1), -13);
        rowIs("33 a refused call changes nothing", x, 0, 7, 9, 8);
    }

    private static void rowIs(String sentence, TenYards x, int d, int... want) {
        for (int i = 0; i < want.length; i++) {
            due.is(sentence + ", element " + i, x.element(d, i), want[i]);
        }
    }

    private static void elementsAtTheEnds() {
        TenYards x = Due.with("f00 0;");
        Due.rowOf(x, 0, 2, 5, 6);
        due.is("34 the first", x.element(0, 0), 5);
        due.is("34 the last", x.element(0, 1), 6);
        due.is("34 IllegalStateException: no such place", Due.thrownBy(x, 0, 2), 2);
        due.is("34 IllegalStateException: no such place", Due.thrownBy(x, 0, -1), 2);
        due.is("34 IllegalStateException: no ROW but nothing", Due.thrownBy(x, 1, 0), 2);
        x.keep(1, 1, 0);
        due.is("34 IllegalStateException: no ROW but a FALLER", Due.thrownBy(x, 1, 0), 2);
        due.is("34 IllegalArgumentException: no such SHELF", Due.thrownBy(x, 8, 0), 1);
        due.is("34 IllegalArgumentException: no such SHELF", Due.thrownBy(x, -1, 0), 1);
    }

    private static void copiesOverlap() {
        for (int sort = 0; sort < 3; sort++) {
            TenYards x = new TenYards();
            Due.rowOf(x, 0, sort, 1, 2, 3, 4, 5);
            due.is("35 onto itself, further on", x.copy(0, 0, 0, 1, 4), 4);
            rowIs("35 onto itself, further on", x, 0, 1, 1, 2, 3, 4);
            Due.rowOf(x, 0, sort, 1, 2, 3, 4, 5);
            due.is("35 onto itself, ahead", x.copy(0, 1, 0, 0, 4), 4);
            rowIs("35 onto itself, ahead", x, 0, 2, 3, 4, 5, 5);
            due.is("35 onto itself, all", x.copy(0, 0, 0, 0, 5), 5);
            rowIs("35 onto itself, all", x, 0, 2, 3, 4, 5, 5);
        }
    }

    private static void copiesOfNone() {
        TenYards x = new TenYards();
        Due.rowOf(x, 0, 0, 1, 2);
        Due.rowOf(x, 1, 0, 3);
        x.row(2, 0, 0);
        int[][] fine = {{0, 1}, {2, 1}, {2, 0}, {1, 0}};
        for (int[] a : fine) {
            due.is("35 none of them", x.copy(0, a[0], 1, a[1], 0), 0);
        }
        due.is("35 none of an empty ROW", x.copy(2, 0, 1, 1, 0), 0);
        due.is("35 none to an empty ROW", x.copy(0, 2, 2, 0, 0), 0);
        due.is("35 one to an empty ROW", x.copy(0, 0, 2, 0, 1), -13);
        due.is("35 one of an empty ROW", x.copy(2, 0, 0, 0, 1), -13);
        due.is("35 none, but from behind the end", x.copy(0, 3, 1, 0, 0), -13);
        due.is("35 none, but to behind the end", x.copy(0, 0, 1, 2, 0), -13);
        due.is("35 less than none", x.copy(0, 1, 1, 1, -1), -13);
        rowIs("35 nothing came", x, 0, 1, 2);
        rowIs("35 nothing came", x, 1, 3);
    }

    private static void copiesOfAll() {
        TenYards x = new TenYards();
        x.row(0, 1, 100);
        x.row(1, 1, 100);
        x.put(0, 0, -32768);
        x.put(0, 99, 32767);
        due.is("35 all of 100", x.copy(0, 0, 1, 0, 100), 100);
        due.is("35 the first of 100", x.element(1, 0), -32768);
        due.is("35 the last of 100", x.element(1, 99), 32767);
        due.is("35 101 of them", x.copy(0, 0, 1, 0, 101), -13);
        due.is("35 the last alone", x.copy(0, 99, 1, 0, 1), 1);
        due.is("35 the last alone", x.element(1, 0), 32767);
        due.is("35 where it came from stays", x.element(0, 99), 32767);
        // Just as far as both go.
        Due.rowOf(x, 2, 2, 1, 2, 3);
        Due.rowOf(x, 3, 2, 0, 0, 0, 0);
        due.is("35 to the end of both", x.copy(2, 1, 3, 2, 2), 2);
        rowIs("35 to the end of both", x, 3, 0, 0, 2, 3);
        due.is("35 one too many from the first", x.copy(2, 2, 3, 0, 2), -13);
        due.is("35 one too many to the second", x.copy(2, 0, 3, 3, 2), -13);
        rowIs("35 a refused call changes nothing", x, 3, 0, 0, 2, 3);
    }

    private static void cares() {
        int[][] ends = {{0, 0}, {0, 20}, {9, 0}, {9, 20}};
        int[][] want = {{10, 1, 10, 20, 10, 13, 0, 70}, {10, 1, 10, 20, 30, 33, 0, 70},
            {10, 1, 19, 20, 10, 13, 90, 70}, {10, 1, 19, 20, 30, 33, 90, 70}};
        for (int i = 0; i < ends.length; i++) {
            for (int kind = 0; kind < 8; kind++) {
                TenYards x = Due.with("f" + kind + ends[i][0] + " " + ends[i][1] + ";");
                x.keep(0, 1, 0);
                due.is("36 KIND " + kind + ", FIGURE " + ends[i][0] + ", OPENS " + ends[i][1], x.care(0), want[i][kind]);
            }
        }
    }

    private static void tosses() {
        for (int figure = 0; figure < 10; figure++) {
            for (int kind = 0; kind < 8; kind++) {
                TenYards x = Due.with("f" + kind + figure + " 20;");
                x.keep(0, 1, 0);
                int want = kind == 1 || figure == 0 ? -15 : kind == 5 ? 100 : kind == 7 ? 270 : 0;
                due.is("37 KIND " + kind + ", FIGURE " + figure, x.toss(0), want);
                due.is("37 once more", x.toss(0), want);
                due.is("37 it stays on its SHELF", x.care(0) > -1 ? 1 : 0, 1);
            }
        }
    }

    private static void tossesOfFallersNumbers() {
        for (int kind = 0; kind < 8; kind++) {
            TenYards x = new TenYards();
            for (int k = 0; k < 8; k++) {
                Due.read(x, "f" + kind + "1 0;");
            }
            for (int k = 0; k < 8; k++) {
                x.keep(k, 1, k);
                int want = kind == 1 ? -15 : kind == 5 ? 100 + k : kind == 7 ? 270 : k;
                due.is("37 its number, KIND " + kind, x.toss(k), want);
            }
        }
        due.is("37 nothing held", new TenYards().toss(0), -11);
        due.is("37 no such SHELF", new TenYards().toss(8), -1);
        due.is("15 refusals where numbers may be below 0", new TenYards().bestLoad(0, 0, 0, 0), LOW - 11);
    }
}
