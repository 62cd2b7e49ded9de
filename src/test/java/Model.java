import java.util.ArrayList;
import java.util.List;
import java.util.regex.Matcher;
import java.util.regex.Pattern;

/**
 * The document once more, written apart from the class and otherwise than it: KINDS by tables, AIRS by regular
 * expressions, searches by looking at all there is. Refusals are thrown, so that nothing has changed by then.
 */
final class Model {
    private static final int[] UNDER = {-1, 0, 0, 0, 0, 4, 0, 3};
    private static final String STATEMENT = "(?:l[0-9]S{2}|gN|aN N|f[0-9]{2} N|bS{4});";
    private static final Pattern AIR = Pattern.compile(
            "(?:" + STATEMENT.replace("S", "(?:[+-]N)").replace("N", "(?:0|[1-9][0-9]{0,3})") + ")+");

    static final class Refusal extends RuntimeException {
        private static final long serialVersionUID = 1;
        final int number;

        Refusal(int number) {
            super(null, null, false, false);
            this.number = number;
        }
    }

    record One(int number, int kind, int figure, int opens) { }

    record Box(long x, long y, long x2, long y2) {
        boolean has(long px, long py) {
            return px >= Math.min(x, x2) * 10 && px <= Math.max(x, x2) * 10
                    && py >= Math.min(y, y2) * 10 && py <= Math.max(y, y2) * 10;
        }
    }

    record Point(long x, long y, long h, int s) {
        long off() {
            return Math.abs(x) + Math.abs(y);
        }
    }

    private static final class State {
        final long[][] wind = new long[10][2];
        int gust = 0;
        int plane = 400;
        int exitHeight = 2000;
        final List<One> ones = new ArrayList<>();
        final List<Box> boxes = new ArrayList<>();

        State same() {
            State other = new State();
            for (int i = 0; i < 10; i++) {
                other.wind[i] = wind[i].clone();
            }
            other.gust = gust;
            other.plane = plane;
            other.exitHeight = exitHeight;
            other.ones.addAll(ones);
            other.boxes.addAll(boxes);
            return other;
        }
    }

    private State now = new State();
    private State image = null;
    private final Object[] shelves = new Object[8];

    // ---- the numbers of KINDS, each by that of the KIND above

    private static int falls(int kind) {
        return kind == 0 ? 120 : falls(UNDER[kind]) + (kind == 2 ? -20 : kind == 3 ? 25 : 0);
    }

    private static int sinks(int kind, int figure) {
        int[] more = {0, 4, -3, 5, figure, -2, 2, 10};
        return kind == 0 ? 16 : sinks(UNDER[kind], figure) + more[kind];
    }

    private static int pace(int kind, int figure) {
        return switch (kind) {
            case 0 -> 40;
            case 2 -> pace(0, figure) - 6;
            case 3 -> pace(0, figure) + 4;
            case 4 -> pace(0, figure) / 2;
            case 5 -> pace(4, figure) + 10;
            case 6 -> pace(0, figure) + figure * 3;
            default -> 0;
        };
    }

    private static long drift(int kind, long wind) {
        if (kind == 0) {
            return wind;
        }
        long above = drift(UNDER[kind], wind);
        return kind == 2 ? cut(above * 5, 4) : kind == 3 ? cut(above * 4, 5) : kind == 7 ? cut(above, 2) : above;
    }

    private static int care(One o) {
        return switch (o.kind) {
            case 0 -> 10;
            case 1 -> 10 - 9;
            case 2 -> 10 + o.figure;
            case 3 -> 20;
            case 4 -> 10 + o.opens;
            case 5 -> 10 + o.opens + 3;
            case 6 -> 10 * o.figure;
            default -> 20 + 50;
        };
    }

    private static long cut(long a, long b) {
        return Long.signum(a) * (Math.abs(a) / b);
    }

    private static long toward0(long from, long by) {
        return -Long.signum(from) * Math.min(Math.abs(from), by);
    }

    private static long[] steer(One o, long x, long y, long e, long n) {
        long pace = pace(o.kind, o.figure);
        long[] home = Math.abs(x) < Math.abs(y) ? new long[] {0, toward0(y, pace)} : new long[] {toward0(x, pace), 0};
        boolean near = Math.max(Math.abs(x), Math.abs(y)) <= 100L * o.figure;
        long[] none = {0, 0};
        return switch (o.kind) {
            case 0, 2, 3 -> home;
            case 4 -> near ? none : home;
            case 5 -> near ? none : Math.abs(n) > Math.abs(e)
                    ? new long[] {toward0(x, pace), 0} : new long[] {0, toward0(y, pace)};
            case 6 -> Math.abs(e) >= Math.abs(n)
                    ? new long[] {Long.signum(e) * pace, 0} : new long[] {0, Long.signum(n) * pace};
            default -> none;
        };
    }

    // ---- FALLS: the whole way of one, second by second

    private static long hold(long v) {
        return v < -30000 ? -30000 : v > 30000 ? 30000 : v;
    }

    private List<Point> way(One o, long x, long y, int z, long[] held) {
        return way(o, x, y, z, held, now.exitHeight, o.opens, now.gust);
    }

    private List<Point> way(One o, long x, long y, int z, long[] held, long height, int opens, int gust) {
        List<Point> points = new ArrayList<>();
        points.add(new Point(x, y, height, 0));
        int seed = z;
        long h = height;
        for (int s = 0; h > 0; s++) {
            int layer = (int) Math.min(9, h / 300);
            long e = now.wind[layer][0];
            long n = now.wind[layer][1];
            if (s < opens) {
                x += (long) now.plane * Math.max(0, 10 - s) / 10 + cut(drift(o.kind, e), 2);
                y += cut(drift(o.kind, n), 2);
                h -= falls(o.kind);
            } else {
                if (layer == 0 && gust > 0) {
                    seed = (int) (seed * 1103515245L + 12345L);
                    e += (seed & 0x7fffffffL) / 65536 % (2 * gust + 1) - gust;
                }
                long[] steered = held == null ? steer(o, x, y, e, n) : held;
                x += steered[0] + drift(o.kind, e);
                y += steered[1] + drift(o.kind, n);
                h -= sinks(o.kind, o.figure);
            }
            x = hold(x);
            y = hold(y);
            h = Math.max(h, 0);
            points.add(new Point(x, y, h, s + 1));
        }
        return points;
    }

    private static Point end(List<Point> way) {
        return way.get(way.size() - 1);
    }

    private Point lands(One o, long x, long y, int z) {
        return end(way(o, x, y, z, null));
    }

    private boolean bars(long x, long y) {
        return now.boxes.stream().anyMatch(b -> b.has(x, y));
    }

    // ---- refusals

    private static void want(boolean holds, int number) {
        if (!holds) {
            throw new Refusal(number);
        }
    }

    private static void range(long n, long least, long most) {
        want(n >= least && n <= most, -1);
    }

    private static void place(int... parts) {
        for (int p : parts) {
            range(p, -30000, 30000);
        }
    }

    private One one(int k) {
        range(k, 0, now.ones.size() - 1);
        return now.ones.get(k);
    }

    private static final class Row {
        final int sort;
        final long[] values;

        Row(int sort, int n) {
            this.sort = sort;
            this.values = new long[n];
        }
    }

    private Row rowAt(int d) {
        want(shelves[d] != null, -11);
        want(shelves[d] instanceof Row, -12);
        return (Row) shelves[d];
    }

    private Row bytesAt(int d) {
        Row row = rowAt(d);
        want(row.sort == 0, -12);
        return row;
    }

    private List<One> crew(int d) {
        Row row = bytesAt(d);
        want(row.values.length >= 1 && row.values.length <= 5, -13);
        List<One> crew = new ArrayList<>();
        for (long v : row.values) {
            want(v >= 0 && v < now.ones.size(), -13);
            crew.add(now.ones.get((int) v));
        }
        return crew;
    }

    // ---- the calls

    int air(int d) {
        range(d, 0, 7);
        Row row = bytesAt(d);
        StringBuilder text = new StringBuilder();
        for (long v : row.values) {
            text.append((char) (v & 255));
        }
        for (int end = 1; end <= text.length(); end++) {
            Matcher m = AIR.matcher(text.substring(0, end));
            boolean canGoOn = m.matches() || m.hitEnd();
            want(canGoOn, -1000 - (end - 1));
        }
        want(AIR.matcher(text).matches(), -1000 - text.length());
        State next = now.same();
        int from = 0;
        int statements = 0;
        for (String statement : text.toString().split(";")) {
            want(take(next, statement), -2000 - from);
            from += statement.length() + 1;
            statements++;
        }
        now = next;
        return statements;
    }

    private static boolean take(State s, String statement) {
        char letter = statement.charAt(0);
        String rest = statement.substring(1);
        if (letter == 'l' || letter == 'f') {
            int digits = letter == 'l' ? 1 : 2;
            StringBuilder spaced = new StringBuilder();
            for (int i = 0; i < digits; i++) {
                spaced.append(rest.charAt(i)).append(' ');
            }
            rest = spaced + rest.substring(digits);
        }
        String[] words = rest.replace("+", " +").replace("-", " -").trim().split(" +");
        int[] v = new int[words.length];
        for (int i = 0; i < v.length; i++) {
            v[i] = Integer.parseInt(words[i]);
        }
        switch (letter) {
            case 'l':
                s.wind[v[0]][0] = v[1];
                s.wind[v[0]][1] = v[2];
                return Math.abs(v[1]) <= 90 && Math.abs(v[2]) <= 90;
            case 'g':
                s.gust = v[0];
                return v[0] <= 30;
            case 'a':
                s.plane = v[0];
                s.exitHeight = v[1];
                return v[0] <= 900 && v[1] >= 300 && v[1] <= 3000;
            case 'f':
                s.ones.add(new One(s.ones.size(), v[0], v[1], v[2]));
                return v[0] <= 7 && v[2] <= 20 && s.ones.size() <= 8;
            default:
                s.boxes.add(new Box(v[0], v[1], v[2], v[3]));
                boolean within = true;
                for (int part : v) {
                    within &= Math.abs(part) <= 3000;
                }
                return within && s.boxes.size() <= 6;
        }
    }

    int wind(int layer, boolean north) {
        range(layer, 0, 9);
        return (int) now.wind[layer][north ? 1 : 0];
    }

    int set(int what, int n) {
        range(what, 0, 2);
        range(n, what == 2 ? 300 : 0, new int[] {30, 900, 3000}[what]);
        int was = count(3 + what);
        if (what == 0) {
            now.gust = n;
        } else if (what == 1) {
            now.plane = n;
        } else {
            now.exitHeight = n;
        }
        return was;
    }

    int faller(int faller, int what) {
        One o = one(faller);
        range(what, 0, 5);
        return new int[] {o.kind, o.figure, o.opens, falls(o.kind), sinks(o.kind, o.figure), pace(o.kind, o.figure)}[what];
    }

    int drift(int faller, int wind, Void unused) {
        One o = one(faller);
        range(wind, -120, 120);
        return (int) drift(o.kind, (long) wind);
    }

    int steers(int faller, int x, int y, int layer, boolean along) {
        One o = one(faller);
        place(x, y);
        range(layer, 0, 9);
        return (int) steer(o, x, y, now.wind[layer][0], now.wind[layer][1])[along ? 1 : 0];
    }

    int barred(int x, int y) {
        place(x, y);
        return bars(x, y) ? 1 : 0;
    }

    int fall(int faller, int x, int y, int what) {
        return fallBy(faller, x, y, 1, what);
    }

    int fallBy(int faller, int x, int y, int z, int what) {
        One o = one(faller);
        place(x, y);
        range(what, 0, 4);
        Point p = lands(o, x, y, z);
        return (int) new long[] {p.x, p.y, p.s, p.off(), bars(p.x, p.y) ? 1 : 0}[what];
    }

    int at(int faller, int x, int y, int n, int what) {
        One o = one(faller);
        place(x, y);
        range(n, 0, 400);
        range(what, 0, 2);
        List<Point> way = way(o, x, y, 1, null);
        Point p = way.get(Math.min(n, way.size() - 1));
        return (int) new long[] {p.x, p.y, p.h}[what];
    }

    int mean(int faller, int x, int y, boolean north) {
        One o = one(faller);
        place(x, y);
        List<Point> way = way(o, x, y, 1, new long[] {0, 0});
        if (o.opens >= way.size() - 1) {
            return 0;
        }
        Point open = way.get(o.opens);
        Point down = end(way);
        return (int) cut(north ? down.y - open.y : down.x - open.x, down.s - open.s);
    }

    int exit(int faller, int what) {
        One o = one(faller);
        range(what, 0, 2);
        long[] best = null;
        for (int y = 10000; y >= -10000; y -= 1000) {
            for (int x = 10000; x >= -10000; x -= 1000) {
                long[] it = {lands(o, x, y, 1).off(), x, y};
                best = best == null || java.util.Arrays.compare(it, best) < 0 ? it : best;
            }
        }
        return (int) best[new int[] {1, 2, 0}[what]];
    }

    private int good(List<One> crew, int x, int y, int gap, int n) {
        int good = 0;
        long from = x;
        for (One o : crew) {
            Point p = lands(o, from, y, 1);
            good += p.off() <= n && !bars(p.x, p.y) ? 1 : 0;
            from = hold(from + (long) now.plane * gap);
        }
        return good;
    }

    int load(int d, int x, int y, int gap, int n) {
        range(d, 0, 7);
        place(x, y);
        range(gap, 1, 20);
        range(n, 0, 60000);
        return good(crew(d), x, y, gap, n);
    }

    int bestLoad(int d, int y, int n, int what) {
        range(d, 0, 7);
        place(y);
        range(n, 0, 60000);
        range(what, 0, 2);
        List<One> crew = crew(d);
        long[] best = null;
        for (int x = 10000; x >= -10000; x -= 1000) {
            for (int gap = 10; gap >= 1; gap--) {
                long[] it = {-good(crew, x, y, gap, n), gap, x};
                best = best == null || java.util.Arrays.compare(it, best) < 0 ? it : best;
            }
        }
        return (int) new long[] {best[2], best[1], -best[0]}[what];
    }

    int order(int d, int x, int y, int gap, int what) {
        range(d, 0, 7);
        place(x, y);
        range(gap, 1, 20);
        range(what, 0, 1);
        List<One> crew = crew(d);
        List<int[]> orders = new ArrayList<>();
        permute(new ArrayList<>(), crew.size(), orders);
        long least = Long.MAX_VALUE;
        int digits = 0;
        for (int[] order : orders) {
            long sum = 0;
            for (int i = 0; i < order.length; i++) {
                sum += lands(crew.get(order[i]), hold(x + (long) i * gap * now.plane), y, 1).off();
            }
            if (sum < least) {
                least = sum;
                StringBuilder text = new StringBuilder();
                for (int place : order) {
                    text.insert(0, place);
                }
                digits = Integer.parseInt(text.toString());
            }
        }
        return what == 0 ? digits : (int) least;
    }

    private static void permute(List<Integer> head, int n, List<int[]> all) {
        if (head.size() == n) {
            all.add(head.stream().mapToInt(Integer::intValue).toArray());
        }
        for (int i = 0; i < n && head.size() < n; i++) {
            if (!head.contains(i)) {
                List<Integer> longer = new ArrayList<>(head);
                longer.add(i);
                permute(longer, n, all);
            }
        }
    }

    int cone(int faller, int height, int n) {
        One o = one(faller);
        range(height, 1, 3000);
        range(n, 0, 60000);
        int had = 0;
        for (int i = -10; i <= 10; i++) {
            for (int k = -10; k <= 10; k++) {
                had += end(way(o, 500 * i, 500 * k, 1, null, height, 0, now.gust)).off() <= n ? 1 : 0;
            }
        }
        return had;
    }

    int steering(int faller, int x, int y, int what) {
        One o = one(faller);
        place(x, y);
        range(what, 0, 1);
        int[][] ways = {{0, 0}, {1, 0}, {-1, 0}, {0, 1}, {0, -1}, {1, 1}, {-1, 1}, {1, -1}, {-1, -1}};
        long least = Long.MAX_VALUE;
        int best = 0;
        for (int w = 8; w >= 0; w--) {
            long pace = pace(o.kind, o.figure);
            long off = end(way(o, x, y, 1, new long[] {ways[w][0] * pace, ways[w][1] * pace})).off();
            if (off <= least) {
                least = off;
                best = w;
            }
        }
        return what == 0 ? best : (int) least;
    }

    int last(int faller) {
        One o = one(faller);
        for (int opens = 20; opens >= 0; opens--) {
            List<Point> way = way(o, 0, 0, 1, null, now.exitHeight, opens, now.gust);
            if (opens < way.size() && way.get(opens).h >= 200) {
                return opens;
            }
        }
        return -4;
    }

    int safe(int x, int y, int what) {
        place(x, y);
        range(what, 0, 1);
        long[] best = null;
        for (int i = 30; i >= -30; i--) {
            for (int k = 30; k >= -30; k--) {
                if (!bars(i * 1000, k * 1000)) {
                    long[] it = {Math.abs(i * 1000 - x) + Math.abs(k * 1000 - y), i * 100, k * 100};
                    best = best == null || java.util.Arrays.compare(it, best) < 0 ? it : best;
                }
            }
        }
        want(best != null, -4);
        return (int) best[1 + what];
    }

    private int goodBySeeds(One o, int x, int y, int m, int n, int z, int gust) {
        int good = 0;
        for (int i = 0; i < n; i++) {
            good += end(way(o, x, y, z + i, null, now.exitHeight, o.opens, gust)).off() <= m ? 1 : 0;
        }
        return good;
    }

    int within(int faller, int x, int y, int m, int n, int z) {
        One o = one(faller);
        place(x, y);
        range(m, 0, 60000);
        range(n, 1, 20);
        return goodBySeeds(o, x, y, m, n, z, now.gust);
    }

    int stop(int faller, int x, int y, int m, int n, int z) {
        One o = one(faller);
        place(x, y);
        range(m, 0, 60000);
        range(n, 1, 20);
        for (int gust = 0; gust <= 30; gust++) {
            if (goodBySeeds(o, x, y, m, n, z, gust) < n / 2.0) {
                return gust;
            }
        }
        return -4;
    }

    int knew(int faller, int other, int x, int y) {
        One o = one(faller);
        One before = one(other);
        want(faller != other, -1);
        place(x, y);
        Point told = lands(before, x, y, 1);
        return (int) (lands(o, x, y, 1).off() - lands(o, hold(x - told.x), hold(y - told.y), 1).off());
    }

    int two(int faller, int later, int gap, int x, int y) {
        One first = one(faller);
        One second = one(later);
        want(faller != later, -1);
        range(gap, 1, 20);
        place(x, y);
        List<Point> a = way(first, x, y, 1, null);
        List<Point> b = way(second, hold(x + (long) now.plane * gap), y, 1, null);
        long least = Long.MAX_VALUE;
        for (int s = 0; s < b.size() - 1 && s + gap < a.size() - 1; s++) {
            Point p = a.get(s + gap);
            Point q = b.get(s);
            least = Math.min(least, Math.abs(p.x - q.x) + Math.abs(p.y - q.y) + Math.abs(p.h - q.h));
        }
        return least == Long.MAX_VALUE ? -4 : (int) least;
    }

    int habits(int fo, int fx, int fy, int x, int y, int m) {
        range(fo, 0, 999);
        range(fo % 100, 0, 20);
        place(fx, fy, x, y);
        range(m, 0, 9999);
        int bits = 0;
        for (int kind = 0; kind < 8; kind++) {
            Point p = lands(new One(0, kind, fo / 100, fo % 100), fx, fy, 1);
            bits += Math.max(Math.abs(p.x - x), Math.abs(p.y - y)) <= m ? 1 << kind : 0;
        }
        return bits;
    }

    int crates(int n, int x, int y, int z) {
        range(n, 1, 5);
        place(x, y);
        long most = 0;
        for (int i = 0; i < n; i++) {
            for (int k = 0; k < n; k++) {
                Point p = lands(new One(0, 1, 0, 0), x, y, z + i);
                Point q = lands(new One(0, 1, 0, 0), x, y, z + k);
                most = Math.max(most, Math.abs(p.x - q.x) + Math.abs(p.y - q.y));
            }
        }
        return (int) most;
    }

    int judge(int faller, int y, int d) {
        One o = one(faller);
        place(y);
        range(d, 0, 7);
        Row row = rowAt(d);
        want(row.values.length <= 31, -13);
        long[] least = {-128, -32768, Integer.MIN_VALUE};
        for (int i = 0; i < row.values.length; i++) {
            if (row.values[i] != least[row.sort] && row.values[i] != lands(o, i * 1000L, y, 1).off()) {
                return i;
            }
        }
        return -4;
    }

    int image() {
        image = now.same();
        return now.ones.size();
    }

    int restore() {
        want(image != null, -3);
        now = image.same();
        return now.ones.size();
    }

    int count(int what) {
        range(what, 0, 5);
        int windy = 0;
        for (long[] w : now.wind) {
            windy += w[0] == 0 && w[1] == 0 ? 0 : 1;
        }
        return new int[] {now.ones.size(), now.boxes.size(), windy, now.gust, now.plane, now.exitHeight}[what];
    }

    int keep(int d, int what, int k) {
        range(d, 0, 7);
        range(what, 0, 1);
        shelves[d] = what == 0 ? null : one(k);
        return 0;
    }

    int row(int d, int sort, int n) {
        range(d, 0, 7);
        range(sort, 0, 2);
        want(n <= 100, -1);
        want(n >= 0, -14);
        shelves[d] = new Row(sort, n);
        return 0;
    }

    int put(int d, int i, int v) {
        range(d, 0, 7);
        Row row = rowAt(d);
        want(i >= 0 && i < row.values.length, -13);
        row.values[i] = row.sort == 0 ? (byte) v : row.sort == 1 ? (short) v : v;
        return 0;
    }

    long element(int d, int i) {
        if (d < 0 || d > 7) {
            throw new IllegalArgumentException();
        }
        if (!(shelves[d] instanceof Row row) || i < 0 || i >= row.values.length) {
            throw new IllegalStateException();
        }
        return row.values[i];
    }

    int copy(int d, int i, int e, int j, int n) {
        range(d, 0, 7);
        range(e, 0, 7);
        want(shelves[d] != null && shelves[e] != null, -11);
        Row from = rowAt(d);
        Row to = rowAt(e);
        want(from.sort == to.sort, -12);
        want(i >= 0 && j >= 0 && n >= 0, -13);
        want((long) i + n <= from.values.length && (long) j + n <= to.values.length, -13);
        long[] taken = java.util.Arrays.copyOfRange(from.values, i, i + n);
        for (int k = 0; k < n; k++) {
            to.values[j + k] = taken[k];
        }
        return n;
    }

    private One oneOn(int d) {
        range(d, 0, 7);
        want(shelves[d] != null, -11);
        want(shelves[d] instanceof One, -12);
        return (One) shelves[d];
    }

    int care(int d) {
        return care(oneOn(d));
    }

    int toss(int d) {
        One o = oneOn(d);
        want(o.kind != 1 && o.figure != 0, -15);
        return o.kind == 7 ? 200 + care(o) : o.kind == 5 ? 100 + o.number : o.number;
    }
}
