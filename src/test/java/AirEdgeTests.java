import java.util.regex.Matcher;
import java.util.regex.Pattern;

/** Promise 2, sentence by sentence of the document's paragraph "2 AN AIR": where texts stop being one. */
public final class AirEdgeTests {
    private static final Due due = new Due();

    /** A FAULT of kind 1 shows where this can no longer go on. */
    private static final Pattern FORM = Pattern.compile(
            "(?:(?:l[0-9]SS|gN|aN N|f[0-9][0-9] N|bSSSS);)+".replace("S", "[+-]N").replace("N", "(?:0|[1-9][0-9]{0,3})"));

    private static final String[] STATEMENTS = {"l0+0-0;", "l9-90+90;", "g30;", "g0;", "a900 3000;", "a0 300;",
        "f00 0;", "f79 20;", "b-3000+3000+0-10;", "b+1-22+333-2999;"};

    public static void main(String[] args) {
        atLeastOneStatement();
        sizes();
        endsTooEarly();
        eachByteAtEachPlace();
        signs();
        digits();
        zerosAhead();
        blanks();
        layers();
        winds();
        gusts();
        planesAndHeights();
        kindsFiguresOpens();
        places();
        roomForFallers();
        roomForBoxes();
        whichFaultCounts();
        allOrNothing();
        due.end();
    }

    private static void reads(String sentence, String text, int want) {
        due.is("2 " + sentence + ": " + text, Due.read(new TenYards(), text), want);
    }

    private static void noForm(String sentence, String text, int place) {
        reads(sentence, text, -1000 - place);
    }

    private static void notAsTold(String sentence, String text, int place) {
        reads(sentence, text, -2000 - place);
    }

    private static void atLeastOneStatement() {
        noForm("at least one STATEMENT", "", 0);
        noForm("; alone is none", ";", 0);
        reads("one is enough", "g0;", 1);
    }

    private static void sizes() {
        String full = "g0;".repeat(33);
        reads("33 STATEMENTS", full, 33);
        reads("100 bytes", full.substring(3) + "g10;", 33);
        noForm("the size, if it ends too early, at 100 bytes", full + "g", 100);
        noForm("the last of 100 bytes", full + ";", 99);
        noForm("all of 100 bytes but the last ;", full.substring(3) + "g300", 100);
        notAsTold("the last STATEMENT of 100 bytes", full.substring(3) + "g31;", 96);
        // Bytes that an older, longer ROW had are not behind the new one.
        TenYards x = new TenYards();
        Due.write(x, 0, full);
        due.is("2 a shorter ROW later", shorter(x, "g1", 2), -1002);
        due.is("2 a shorter ROW later", shorter(x, "g1;", 3), 1);
        due.is("2 elements are 0 at first", shorter(x, "g1;", 4), -1003);
    }

    private static int shorter(TenYards x, String text, int size) {
        x.row(0, 0, size);
        for (int i = 0; i < text.length(); i++) {
            x.put(0, i, text.charAt(i));
        }
        return x.air(0);
    }

    private static void endsTooEarly() {
        for (String statement : STATEMENTS) {
            reads("it is a STATEMENT", statement, 1);
            for (int size = 0; size < statement.length(); size++) {
                noForm("the size, if it ends too early", statement.substring(0, size), size);
                if (size > 0) {
                    noForm("the size, if the second ends too early", "g1;" + statement.substring(0, size), size + 3);
                }
            }
        }
    }

    private static int formFaultOf(String text) {
        for (int end = 1; end <= text.length(); end++) {
            Matcher m = FORM.matcher(text.substring(0, end));
            if (!m.matches() && !m.hitEnd()) {
                return end - 1;
            }
        }
        return FORM.matcher(text).matches() ? -1 : text.length();
    }

    private static void eachByteAtEachPlace() {
        for (String statement : STATEMENTS) {
            String text = statement + "g1;";
            for (int place = 0; place <= text.length(); place++) {
                for (int b = 0; b < 256; b++) {
                    String behind = place < text.length() ? text.substring(place + 1) : "";
                    String other = text.substring(0, place) + (char) b + behind;
                    int fault = formFaultOf(other);
                    int got = Due.read(new TenYards(), other);
                    // Without a FAULT of kind 1 the numbers may still be out of range.
                    boolean isSo = fault >= 0 ? got == -1000 - fault : got > 0 || got <= -2000;
                    due.isTrue("2 the first byte with which no AIR can go on: " + other + " answered " + got, isSo);
                }
            }
        }
    }

    private static void signs() {
        noForm("EAST begins with + or -", "l01+1;", 2);
        noForm("NORTH begins with + or -", "l0+1 1;", 4);
        noForm("NORTH begins with + or -", "l0+1;", 4);
        noForm("one sign", "l0+-1+1;", 3);
        String[] boxes = {"b1+2+3+4;", "b+1 2+3+4;", "b+1+2 3+4;", "b+1+2+3 4;"};
        int[] places = {1, 3, 5, 7};
        for (int i = 0; i < boxes.length; i++) {
            noForm("PLACES begin with + or -", boxes[i], places[i]);
        }
        noForm("three PLACES", "b+1+2+3;", 7);
        noForm("five PLACES", "b+1+2+3+4+5;", 9);
        noForm("GUST has no sign", "g+1;", 1);
        noForm("GUST has no sign", "g-0;", 1);
        noForm("PLANE has no sign", "a+1 300;", 1);
        noForm("EXIT HEIGHT has no sign", "a1 +300;", 3);
        noForm("OPENS has no sign", "f00 +1;", 4);
        TenYards x = new TenYards();
        due.is("2 either sign ahead of 0", Due.read(x, "l1-0+0;l2+0-0;b-0+0+0-0;"), 3);
        due.is("2 either sign ahead of 0", x.wind(1, false), 0);
        due.is("2 either sign ahead of 0", x.barred(0, 0), 1);
    }

    private static void digits() {
        noForm("NUMBERS have 1 digit at least", "g;", 1);
        noForm("NUMBERS have 1 digit at least", "l0++1;", 3);
        noForm("NUMBERS have 1 digit at least", "l0+1-;", 5);
        noForm("NUMBERS have 1 digit at least", "a 300;", 1);
        noForm("NUMBERS have 1 digit at least", "a1 ;", 3);
        noForm("NUMBERS have 1 digit at least", "f00 ;", 4);
        noForm("NUMBERS have 1 digit at least", "b+1+2+3+;", 8);
        notAsTold("NUMBERS have up to 4 digits", "g1000;", 0);
        notAsTold("NUMBERS have up to 4 digits", "l0+9999-9999;", 0);
        reads("NUMBERS have up to 4 digits", "a100 1000;", 1);
        noForm("NUMBERS have 4 digits at most", "g10000;", 5);
        noForm("NUMBERS have 4 digits at most", "l0+10000+1;", 7);
        noForm("NUMBERS have 4 digits at most", "l0+1-10000;", 9);
        noForm("NUMBERS have 4 digits at most", "a10000 300;", 5);
        noForm("NUMBERS have 4 digits at most", "a1 10000;", 7);
        noForm("NUMBERS have 4 digits at most", "f00 10000;", 8);
        noForm("NUMBERS have 4 digits at most", "b+10000+1+1+1;", 6);
        noForm("NUMBERS have 4 digits at most", "b+1+1+1-10000;", 12);
    }

    private static void zerosAhead() {
        reads("0 alone", "g0;", 1);
        noForm("no 0 ahead of another", "g00;", 2);
        noForm("no 0 ahead of another", "g01;", 2);
        noForm("no 0 ahead of another", "l0+01+1;", 4);
        noForm("no 0 ahead of another", "l0+0-00;", 6);
        noForm("no 0 ahead of another", "a00 300;", 2);
        noForm("no 0 ahead of another", "a0 0300;", 4);
        noForm("no 0 ahead of another", "f00 00;", 5);
        noForm("no 0 ahead of another", "b+0+0+0-05;", 9);
        reads("0 behind others", "g10;g20;a100 3000;", 3);
    }

    private static void blanks() {
        noForm("a blank behind PLANE", "a400;", 4);
        noForm("one blank behind PLANE", "a400  2000;", 5);
        noForm("a blank, no other sign", "a400\t2000;", 4);
        noForm("a blank behind FIGURE", "f005;", 3);
        noForm("no blank behind KIND", "f0 0 5;", 2);
        noForm("no blank behind the letter", "g 1;", 1);
        noForm("no blank behind LAYER", "l0 +1+1;", 2);
        noForm("no blank ahead of ;", "g1 ;", 2);
        noForm("no blank behind ;", "g1; g1;", 3);
        noForm("no blank ahead of all", " g1;", 0);
        noForm("no line's end behind all", "g1;\n", 3);
        noForm("letters are small", "G1;", 0);
        noForm("; once", "g1;;", 3);
    }

    private static void layers() {
        for (int layer = 0; layer < 10; layer++) {
            TenYards x = Due.with("l" + layer + "+7-8;");
            for (int other = 0; other < 10; other++) {
                due.is("2 LAYER " + layer + ", its WIND EAST", x.wind(other, false), other == layer ? 7 : 0);
                due.is("2 LAYER " + layer + ", its WIND NORTH", x.wind(other, true), other == layer ? -8 : 0);
            }
        }
        noForm("LAYER is one digit", "l10+1+1;", 2);
        noForm("LAYER is a digit", "l+1+1;", 1);
        TenYards x = Due.with("l4+7-8;l4+0+1;");
        due.is("2 the later WIND of a LAYER", x.wind(4, false), 0);
        due.is("2 the later WIND of a LAYER", x.wind(4, true), 1);
    }

    private static void winds() {
        reads("EAST, NORTH 90", "l0+90+90;", 1);
        reads("EAST, NORTH -90", "l0-90-90;", 1);
        notAsTold("EAST 91", "l0+91+0;", 0);
        notAsTold("EAST -91", "l0-91+0;", 0);
        notAsTold("NORTH 91", "l0+0+91;", 0);
        notAsTold("NORTH -91", "l0+0-91;", 0);
    }

    private static void gusts() {
        for (int gust = 0; gust <= 40; gust++) {
            reads("GUST 0 .. 30", "g" + gust + ";", gust <= 30 ? 1 : -2000);
        }
        due.is("2 GUST", Due.with("g30;").count(3), 30);
        due.is("2 GUST", Due.with("g30;", "g0;").count(3), 0);
    }

    private static void planesAndHeights() {
        reads("PLANE 0", "a0 2000;", 1);
        reads("PLANE 900", "a900 2000;", 1);
        notAsTold("PLANE 901", "a901 2000;", 0);
        notAsTold("PLANE 9999", "a9999 2000;", 0);
        notAsTold("EXIT HEIGHT 0", "a1 0;", 0);
        notAsTold("EXIT HEIGHT 299", "a1 299;", 0);
        reads("EXIT HEIGHT 300", "a1 300;", 1);
        reads("EXIT HEIGHT 3000", "a1 3000;", 1);
        notAsTold("EXIT HEIGHT 3001", "a1 3001;", 0);
        TenYards x = Due.with("a900 300;");
        due.is("2 PLANE", x.count(4), 900);
        due.is("2 EXIT HEIGHT", x.count(5), 300);
    }

    private static void kindsFiguresOpens() {
        for (int digit = 0; digit < 10; digit++) {
            reads("KIND 0 .. 7", "f" + digit + "0 0;", digit < 8 ? 1 : -2000);
            due.is("2 FIGURE", Due.with("f0" + digit + " 0;").faller(0, 1), digit);
        }
        for (int opens = 0; opens <= 30; opens++) {
            reads("OPENS 0 .. 20", "f00 " + opens + ";", opens <= 20 ? 1 : -2000);
        }
        notAsTold("OPENS 9999", "f00 9999;", 0);
        noForm("FIGURE is one digit", "f0 0;", 2);
        noForm("FIGURE is one digit", "f010 0;", 3);
        TenYards x = Due.with("f79 20;f10 0;");
        int[][] want = {{7, 9, 20}, {1, 0, 0}};
        for (int faller = 0; faller < 2; faller++) {
            for (int what = 0; what < 3; what++) {
                due.is("2 FALLERS as they come", x.faller(faller, what), want[faller][what]);
            }
        }
    }

    private static void places() {
        reads("PLACES -3000 .. 3000 yards", "b-3000-3000+3000+3000;", 1);
        reads("PLACES -3000 .. 3000 yards", "b+3000+3000-3000-3000;", 1);
        for (int part = 0; part < 4; part++) {
            int[] bad = {-3001, 3001, 9999, -9999};
            for (int yards : bad) {
                StringBuilder text = new StringBuilder("b");
                for (int i = 0; i < 4; i++) {
                    text.append(i == part && yards < 0 ? "-" : "+").append(i == part ? Math.abs(yards) : 1);
                }
                notAsTold("PLACES -3000 .. 3000 yards", text.append(';').toString(), 0);
            }
        }
    }

    private static void roomForFallers() {
        String one = "f00 0;";
        reads("FALLERS 0 .. 7", one.repeat(8), 8);
        notAsTold("no room for a ninth", one.repeat(9), 48);
        notAsTold("the first without room", one.repeat(11), 48);
        TenYards x = Due.with(one.repeat(7));
        due.is("2 room for one more only", Due.read(x, "g1;f01 0;f02 0;"), -2009);
        due.is("2 none of both came", x.count(0), 7);
        due.is("2 the eighth", Due.read(x, "f03 0;"), 1);
        due.is("2 the eighth", x.faller(7, 1), 3);
        due.is("2 no room", Due.read(x, "f03 0;"), -2000);
        due.is("2 others still come", Due.read(x, "g3;"), 1);
        due.is("2 no form ahead of no room", Due.read(x, "f03 0"), -1005);
    }

    private static void roomForBoxes() {
        String one = "b+1+1+2+2;";
        reads("6 at most", one.repeat(6), 6);
        notAsTold("no seventh", one.repeat(7), 60);
        TenYards x = Due.with(one.repeat(5));
        due.is("2 room for one more only", Due.read(x, "g1;b+1+1+2+2;b+1+1+2+2;"), -2013);
        due.is("2 none of both came", x.count(1), 5);
        due.is("2 the sixth", Due.read(x, "b+7+7+8+8;"), 1);
        due.is("2 the sixth", x.barred(75, 75), 1);
        due.is("2 no room", Due.read(x, one), -2000);
        due.is("2 no room", x.count(1), 6);
    }

    private static void whichFaultCounts() {
        notAsTold("the first STATEMENT that isn't as told", "g1;g31;g32;", 3);
        notAsTold("the first STATEMENT that isn't as told", "g31;l0+91+0;", 0);
        notAsTold("the last STATEMENT", "g1;g2;g3;f90 0;", 9);
        noForm("kind 1 counts, else kind 2", "g31;g1", 6);
        noForm("kind 1 counts, else kind 2", "g31;z", 4);
        noForm("kind 1 counts in the same STATEMENT", "f90 21", 6);
        noForm("kind 1 counts in the same STATEMENT", "a901 299 ;", 8);
        noForm("kind 1 counts, else kind 2", "f00 0;".repeat(9) + "f", 55);
    }

    private static void nothingComes(String text) {
        TenYards x = new TenYards();
        String before = Meadow.airOf(x);
        due.isTrue("2 a FAULT: " + text, Due.read(x, text) < 0);
        due.isTrue("2 with one nothing comes: " + text, before.equals(Meadow.airOf(x)));
    }

    private static void allOrNothing() {
        String good = "l5+6-7;g8;a9 310;f21 11;b+1+2+3+4;";
        String[] bad = {"g31;", "g", "z", "f80 0;", "b+1+1+1+3001;", "a0 299;", "l0+0+91;"};
        for (String end : bad) {
            nothingComes(good + end);
            nothingComes(end + good);
        }
        TenYards x = new TenYards();
        due.is("2 without FAULT all of it comes", Due.read(x, good), 5);
        due.is("2 all of it: WIND", x.wind(5, false), 6);
        due.is("2 all of it: WIND", x.wind(5, true), -7);
        int[] counts = {1, 1, 1, 8, 9, 310};
        for (int what = 0; what < 6; what++) {
            due.is("2 all of it: count " + what, x.count(what), counts[what]);
        }
        due.is("2 the text stays on its SHELF", x.element(7, 0), 'l');
        due.is("2 it can be read again", x.air(7), 5);
        due.is("2 a FALLER more", x.count(0), 2);
        due.is("2 a BARRED box more", x.count(1), 2);
    }
}
