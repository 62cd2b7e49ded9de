/** A meadow with something of everything on it, and all that calls can show of it, as a text. */
final class Meadow {
    /** What its SHELVES hold. */
    static final int NOTHING = 0;
    static final int A_FALLER = 1;
    static final int CREW = 2;
    static final int SHORTS = 3;
    static final int INTS = 4;
    static final int FORM_FAULT = 5;
    static final int NUMBER_FAULT = 6;
    static final int EMPTY_ROW = 7;

    static final int FALLERS = 8;

    private static final String UNTOUCHED = all(full());

    interface Call {
        long ask(TenYards x);
    }

    /** FALLER k is of KIND k; THE IMAGE was taken when there were fewer of them, and another wind. */
    static TenYards full() {
        TenYards x = Due.with("l0+1-1;l3+9+9;g2;f01 3;b-9-9-8-8;");
        x.image();
        Due.read(x, "l0+20-30;l1-20+30;l3+0+0;l9+5+0;g9;a350 1800;f12 5;f25 0;f39 9;");
        Due.read(x, "f41 2;f53 1;f64 7;f71 0;b-50-50+50+50;");
        x.keep(A_FALLER, 1, 5);
        Due.bytes(x, CREW, 0, 2, 3);
        Due.rowOf(x, SHORTS, 1, -300, 300, -32768);
        Due.rowOf(x, INTS, 2, 70000, -70000);
        Due.write(x, FORM_FAULT, "g3;f00 0;g");
        Due.write(x, NUMBER_FAULT, "l0+9+9;g3;a1 300;b+1+1+1+1;f00 0;");
        x.row(EMPTY_ROW, 0, 0);
        return x;
    }

    /** A refused call answers so, and all is as on a meadow where nobody called. */
    static void refuses(Due due, String what, Call call, long want) {
        TenYards x = full();
        due.is(what, call.ask(x), want);
        due.isTrue(what + ": a refused call changes nothing", isUntouched(x));
    }

    /** Looks at everything, THE IMAGE last: the meadow is of no use behind this. */
    static boolean isUntouched(TenYards x) {
        return all(x).equals(UNTOUCHED);
    }

    private static String all(TenYards x) {
        StringBuilder text = new StringBuilder(airOf(x));
        for (int d = 0; d < 8; d++) {
            text.append("; shelf ").append(shelfOf(x, d));
        }
        return text.append("; image ").append(x.restore()).append(airOf(x)).toString();
    }

    static String airOf(TenYards x) {
        StringBuilder text = new StringBuilder();
        for (int what = 0; what < 6; what++) {
            text.append(' ').append(x.count(what));
        }
        for (int layer = 0; layer < 10; layer++) {
            text.append(' ').append(x.wind(layer, false)).append(' ').append(x.wind(layer, true));
        }
        for (int k = 0; k < x.count(0); k++) {
            text.append(" f").append(x.faller(k, 0)).append(x.faller(k, 1)).append(' ').append(x.faller(k, 2));
        }
        for (int place = -90; place <= 540; place += 45) {
            text.append(" b").append(x.barred(place, place));
        }
        return text.toString();
    }

    private static String shelfOf(TenYards x, int d) {
        StringBuilder text = new StringBuilder();
        text.append(x.care(d)).append(' ').append(x.toss(d));
        for (int e = d; e < 8; e++) {
            // Copying no elements shows which ROWS are of one SORT.
            text.append(' ').append(x.copy(d, 0, e, 0, 0));
        }
        for (int i = 0; i < 100 && Due.thrownBy(x, d, i) == 0; i++) {
            text.append(' ').append(x.element(d, i));
        }
        return text.toString();
    }

    private Meadow() { }
}
