/** What the tests share: counts answers that are not the ones due, and writes texts into shelves. */
final class Due {
    private int wrong = 0;
    private int looked = 0;

    void is(String call, long got, long want) {
        looked++;
        if (got != want) {
            wrong++;
            System.out.println(call + " answered " + got + ", due is " + want);
        }
    }

    void isTrue(String what, boolean holds) {
        is(what, holds ? 1 : 0, 1);
    }

    /** 0 if element(d, i) answers, 1 for IllegalArgumentException, 2 for IllegalStateException, 3 for others. */
    static int thrownBy(TenYards x, int d, int i) {
        try {
            x.element(d, i);
            return 0;
        } catch (IllegalArgumentException e) {
            return 1;
        } catch (IllegalStateException e) {
            return 2;
        } catch (RuntimeException e) {
            return 3;
        }
    }

    static void write(TenYards x, int d, String text) {
        x.row(d, 0, text.length());
        for (int i = 0; i < text.length(); i++) {
            x.put(d, i, text.charAt(i));
        }
    }

    /** The answer of air for a text that is written into SHELF 7. */
    static int read(TenYards x, String text) {
        write(x, 7, text);
        return x.air(7);
    }

    /** A new object with the airs told, all of which must be without FAULT. */
    static TenYards with(String... texts) {
        TenYards x = new TenYards();
        for (String text : texts) {
            if (read(x, text) <= 0) {
                throw new AssertionError("the test's own air has a fault: " + text);
            }
        }
        x.keep(7, 0, 0);
        return x;
    }

    static void bytes(TenYards x, int d, int... values) {
        rowOf(x, d, 0, values);
    }

    static void rowOf(TenYards x, int d, int sort, int... values) {
        x.row(d, sort, values.length);
        for (int i = 0; i < values.length; i++) {
            x.put(d, i, values[i]);
        }
    }

    void end() {
        System.out.println(looked + " answers looked at, " + wrong + " of them wrong");
        if (wrong != 0 || looked == 0) {
            System.exit(1);
        }
    }
}
