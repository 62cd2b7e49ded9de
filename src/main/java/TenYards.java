/**
 * A meadow with a cross of cloth, the winds above it, an aeroplane, and those who leave it and land.
 * Words in capitals are those of the document.
 */
public final class TenYards {
    private static final int NO_SUCH = -1;
    private static final int NOT_NOW = -3;
    private static final int NONE = -4;
    private static final int NOTHING_HELD = -11;
    private static final int OTHER_KIND = -12;
    private static final int NO_PLACE = -13;
    private static final int BAD_SIZE = -14;
    private static final int NO_FAILURE = -15;

    /** What refusals have added to them where an answer may be below 0. */
    private static final int BELOW = -1000000000;

    private static final int EDGE = 30000;
    private static final int MOST_OFF = 60000;
    private static final int FIRST_SEED = 1;
    private static final int MOST_GAP = 20;
    private static final int MOST_GUST = 30;
    private static final int MOST_PLANE = 900;
    private static final int LOWEST_EXIT = 300;
    private static final int HIGHEST_EXIT = 3000;
    private static final int MOST_OPENS = 20;
    private static final int MOST_FIGURE = 9;
    private static final int LAYERS = 10;
    private static final int KINDS = 8;
    private static final int SHELVES = 8;
    private static final int MOST_ELEMENTS = 100;
    private static final int MOST_IN_LOAD = 5;
    private static final int MOST_JUDGED = 31;

    /** The slowest FALL (3000 feet at 13 a SECOND) ends well ahead of this. */
    private static final int MOST_SECONDS = 400;

    private final Air air = new Air();
    private final Air draft = new Air();
    private final Air pictured = new Air();
    private boolean isPictured = false;
    private final Fall fall = new Fall(air);
    private final Fall laterFall = new Fall(air);
    private final Shelf[] shelves = new Shelf[SHELVES];
    /** OFFS in an ORDER: a line of five for each place in the ROW, by when it leaves. */
    private final int[] offs = new int[MOST_IN_LOAD * MOST_IN_LOAD];
    private final int[] places = new int[MOST_IN_LOAD];
    private final int[] crateX = new int[MOST_IN_LOAD];
    private final int[] crateY = new int[MOST_IN_LOAD];

    public TenYards() {
        for (int d = 0; d < SHELVES; d++) {
            shelves[d] = new Shelf();
        }
    }

    // ---- airs, fallers

    public int air(int d) {
        Shelf shelf = shelfAt(d);
        if (shelf == null) {
            return NO_SUCH;
        }
        int refusal = refusalOfBytes(shelf);
        if (refusal != 0) {
            return refusal;
        }
        draft.become(air);
        int answer = draft.readFrom(shelf);
        if (answer > 0) {
            air.become(draft);
        }
        return answer;
    }

    public int wind(int layer, boolean north) {
        if (!isLayer(layer)) {
            return BELOW + NO_SUCH;
        }
        return north ? air.north[layer] : air.east[layer];
    }

    public int set(int what, int n) {
        int was = NO_SUCH;
        if (what == 0 && isFrom(0, n, MOST_GUST)) {
            was = air.gust;
            air.gust = n;
        } else if (what == 1 && isFrom(0, n, MOST_PLANE)) {
            was = air.plane;
            air.plane = n;
        } else if (what == 2 && isFrom(LOWEST_EXIT, n, HIGHEST_EXIT)) {
            was = air.exitHeight;
            air.exitHeight = n;
        }
        return was;
    }

    public int faller(int faller, int what) {
        Faller who = air.fallerAt(faller);
        if (who == null) {
            return NO_SUCH;
        }
        switch (what) {
            case 0: return who.kind;
            case 1: return who.figure;
            case 2: return who.opens;
            case 3: return who.falls;
            case 4: return who.sinks;
            case 5: return who.pace;
            default: return NO_SUCH;
        }
    }

    public int drift(int faller, int wind) {
        Faller who = air.fallerAt(faller);
        if (who == null || !isFrom(-120, wind, 120)) {
            return BELOW + NO_SUCH;
        }
        return who.driftOf(wind);
    }

    public int steers(int faller, int x, int y, int layer, boolean along) {
        Faller who = air.fallerAt(faller);
        if (who == null || !isPlace(x, y) || !isLayer(layer)) {
            return BELOW + NO_SUCH;
        }
        int east = air.east[layer];
        int north = air.north[layer];
        return along ? who.steerNorth(x, y, east, north) : who.steerEast(x, y, east, north);
    }

    public int barred(int x, int y) {
        if (!isPlace(x, y)) {
            return NO_SUCH;
        }
        return air.bars(x, y) ? 1 : 0;
    }

    // ---- falls

    public int fall(int faller, int x, int y, int what) {
        return landing(faller, x, y, FIRST_SEED, what);
    }

    public int fallBy(int faller, int x, int y, int z, int what) {
        return landing(faller, x, y, z, what);
    }

    public int at(int faller, int x, int y, int n, int what) {
        Faller who = air.fallerAt(faller);
        if (who == null || !isPlace(x, y) || !isFrom(0, n, MOST_SECONDS) || !isFrom(0, what, 2)) {
            return BELOW + NO_SUCH;
        }
        fall.begin(who, x, y, FIRST_SEED);
        fall.goOn(n);
        return what == 0 ? fall.x : what == 1 ? fall.y : fall.height;
    }

    public int mean(int faller, int x, int y, boolean north) {
        Faller who = air.fallerAt(faller);
        if (who == null || !isPlace(x, y)) {
            return BELOW + NO_SUCH;
        }
        fall.begin(who, x, y, FIRST_SEED);
        fall.holdWay(0, 0);
        fall.goOn(who.opens);
        int openedAt = north ? fall.y : fall.x;
        int openedAfter = fall.seconds;
        fall.land();
        int open = fall.seconds - openedAfter;
        if (open <= 0) {
            return 0;
        }
        return ((north ? fall.y : fall.x) - openedAt) / open;
    }

    // ---- exits, loads

    public int exit(int faller, int what) {
        Faller who = air.fallerAt(faller);
        if (who == null || !isFrom(0, what, 2)) {
            return BELOW + NO_SUCH;
        }
        int leastOff = Integer.MAX_VALUE;
        int bestX = 0;
        int bestY = 0;
        for (int x = -10000; x <= 10000; x += 1000) {
            for (int y = -10000; y <= 10000; y += 1000) {
                int off = fall.offFrom(who, x, y);
                if (off < leastOff) {
                    leastOff = off;
                    bestX = x;
                    bestY = y;
                }
            }
        }
        return what == 0 ? bestX : what == 1 ? bestY : leastOff;
    }

    public int load(int d, int x, int y, int gap, int n) {
        Shelf shelf = shelfAt(d);
        if (shelf == null || !isPlace(x, y) || !isGap(gap) || !isFrom(0, n, MOST_OFF)) {
            return NO_SUCH;
        }
        int refusal = refusalOfLoad(shelf);
        if (refusal != 0) {
            return refusal;
        }
        return loadWithin(shelf, x, y, gap, n);
    }

    public int bestLoad(int d, int y, int n, int what) {
        Shelf shelf = shelfAt(d);
        if (shelf == null || !isPlace(0, y) || !isFrom(0, n, MOST_OFF) || !isFrom(0, what, 2)) {
            return BELOW + NO_SUCH;
        }
        int refusal = refusalOfLoad(shelf);
        if (refusal != 0) {
            return BELOW + refusal;
        }
        int most = -1;
        int bestX = 0;
        int bestGap = 0;
        // With all of them down within n nothing later can be better, so the search ends there.
        for (int gap = 1; gap <= 10 && most < shelf.size; gap++) {
            for (int x = -10000; x <= 10000 && most < shelf.size; x += 1000) {
                int good = loadWithin(shelf, x, y, gap, n);
                if (good > most) {
                    most = good;
                    bestX = x;
                    bestGap = gap;
                }
            }
        }
        return what == 0 ? bestX : what == 1 ? bestGap : most;
    }

    public int order(int d, int x, int y, int gap, int what) {
        Shelf shelf = shelfAt(d);
        if (shelf == null || !isPlace(x, y) || !isGap(gap) || !isFrom(0, what, 1)) {
            return NO_SUCH;
        }
        int refusal = refusalOfLoad(shelf);
        if (refusal != 0) {
            return refusal;
        }
        tellOffs(shelf, x, y, gap);
        int n = Math.min(shelf.size, MOST_IN_LOAD);
        for (int i = 0; i < MOST_IN_LOAD; i++) {
            places[i] = i;
        }
        int leastSum = Integer.MAX_VALUE;
        int digits = 0;
        boolean more = true;
        // Five have 120 orders, which come first by places first.
        for (int k = 0; k < 120 && more; k++) {
            int sum = sumOfOrder(n);
            if (sum < leastSum) {
                leastSum = sum;
                digits = digitsOfOrder(n);
            }
            more = nextOrder(n);
        }
        return what == 0 ? digits : leastSum;
    }

    // ---- what can still be had

    public int cone(int faller, int height, int n) {
        Faller who = air.fallerAt(faller);
        if (who == null || !isFrom(1, height, HIGHEST_EXIT) || !isFrom(0, n, MOST_OFF)) {
            return NO_SUCH;
        }
        int had = 0;
        for (int x = -5000; x <= 5000; x += 500) {
            for (int y = -5000; y <= 5000; y += 500) {
                fall.begin(who, x, y, FIRST_SEED);
                fall.openAt(height);
                fall.land();
                if (fall.off() <= n) {
                    had++;
                }
            }
        }
        return had;
    }

    public int steering(int faller, int x, int y, int what) {
        Faller who = air.fallerAt(faller);
        if (who == null || !isPlace(x, y) || !isFrom(0, what, 1)) {
            return NO_SUCH;
        }
        int leastOff = Integer.MAX_VALUE;
        int best = 0;
        for (int way = 0; way <= 8; way++) {
            fall.begin(who, x, y, FIRST_SEED);
            fall.holdWay(eastOfWay(way) * who.pace, northOfWay(way) * who.pace);
            fall.land();
            int off = fall.off();
            if (off < leastOff) {
                leastOff = off;
                best = way;
            }
        }
        return what == 0 ? best : leastOff;
    }

    public int last(int faller) {
        Faller who = air.fallerAt(faller);
        if (who == null) {
            return NO_SUCH;
        }
        int latest = NONE;
        for (int opens = 0; opens <= MOST_OPENS; opens++) {
            if (air.exitHeight - opens * who.falls >= 200) {
                latest = opens;
            }
        }
        return latest;
    }

    public int safe(int x, int y, int what) {
        if (!isPlace(x, y) || !isFrom(0, what, 1)) {
            return BELOW + NO_SUCH;
        }
        int least = Integer.MAX_VALUE;
        int best = BELOW + NONE;
        for (int eastYards = -3000; eastYards <= 3000; eastYards += 100) {
            for (int northYards = -3000; northYards <= 3000; northYards += 100) {
                int away = Math.abs(eastYards * 10 - x) + Math.abs(northYards * 10 - y);
                if (away < least && !air.bars(eastYards * 10, northYards * 10)) {
                    least = away;
                    best = what == 0 ? eastYards : northYards;
                }
            }
        }
        return best;
    }

    // ---- seeds

    public int within(int faller, int x, int y, int m, int n, int z) {
        Faller who = air.fallerAt(faller);
        if (who == null || !isPlace(x, y) || !isFrom(0, m, MOST_OFF) || !isFrom(1, n, 20)) {
            return NO_SUCH;
        }
        return goodBySeeds(who, x, y, m, n, z, air.gust);
    }

    public int stop(int faller, int x, int y, int m, int n, int z) {
        Faller who = air.fallerAt(faller);
        if (who == null || !isPlace(x, y) || !isFrom(0, m, MOST_OFF) || !isFrom(1, n, 20)) {
            return NO_SUCH;
        }
        for (int gust = 0; gust <= MOST_GUST; gust++) {
            if (2 * goodBySeeds(who, x, y, m, n, z, gust) < n) {
                return gust;
            }
        }
        return NONE;
    }

    public int knew(int faller, int other, int x, int y) {
        Faller who = air.fallerAt(faller);
        Faller earlier = air.fallerAt(other);
        if (who == null || earlier == null || faller == other || !isPlace(x, y)) {
            return BELOW + NO_SUCH;
        }
        int blind = fall.offFrom(who, x, y);
        fall.offFrom(earlier, x, y);
        int taughtX = Fall.held(x - fall.x);
        int taughtY = Fall.held(y - fall.y);
        return blind - fall.offFrom(who, taughtX, taughtY);
    }

    public int two(int faller, int later, int gap, int x, int y) {
        Faller first = air.fallerAt(faller);
        Faller second = air.fallerAt(later);
        if (first == null || second == null || faller == later || !isGap(gap) || !isPlace(x, y)) {
            return NO_SUCH;
        }
        fall.begin(first, x, y, FIRST_SEED);
        fall.goOn(gap);
        laterFall.begin(second, Fall.held(x + air.plane * gap), y, FIRST_SEED);
        int least = NONE;
        for (int s = 0; s < MOST_SECONDS && !fall.hasLanded() && !laterFall.hasLanded(); s++) {
            int apart = fall.apartFrom(laterFall);
            if (least == NONE || apart < least) {
                least = apart;
            }
            fall.goOn(1);
            laterFall.goOn(1);
        }
        return least;
    }

    // ---- a day, crates

    public int habits(int fo, int fx, int fy, int x, int y, int m) {
        int figure = fo / 100;
        int opens = fo % 100;
        if (fo < 0 || figure > MOST_FIGURE || opens > MOST_OPENS) {
            return NO_SUCH;
        }
        if (!isPlace(fx, fy) || !isPlace(x, y) || !isFrom(0, m, 9999)) {
            return NO_SUCH;
        }
        int bits = 0;
        for (int kind = 0; kind < KINDS; kind++) {
            fall.offFrom(Faller.ofKind(kind, 0, figure, opens), fx, fy);
            if (Math.abs(fall.x - x) <= m && Math.abs(fall.y - y) <= m) {
                bits |= 1 << kind;
            }
        }
        return bits;
    }

    public int crates(int n, int x, int y, int z) {
        if (!isFrom(1, n, MOST_IN_LOAD) || !isPlace(x, y)) {
            return NO_SUCH;
        }
        Faller crate = new Papered(0, 0, 0);
        int widest = 0;
        for (int i = 0; i < n; i++) {
            fall.begin(crate, x, y, z + i);
            fall.land();
            crateX[i] = fall.x;
            crateY[i] = fall.y;
            for (int k = 0; k < i; k++) {
                int apart = Math.abs(crateX[i] - crateX[k]) + Math.abs(crateY[i] - crateY[k]);
                widest = Math.max(widest, apart);
            }
        }
        return widest;
    }

    public int judge(int faller, int y, int d) {
        Faller who = air.fallerAt(faller);
        Shelf shelf = shelfAt(d);
        if (who == null || shelf == null || !isPlace(0, y)) {
            return NO_SUCH;
        }
        int refusal = refusalOfRow(shelf);
        if (refusal != 0) {
            return refusal;
        }
        if (shelf.size > MOST_JUDGED) {
            return NO_PLACE;
        }
        for (int i = 0; i < shelf.size; i++) {
            int told = shelf.valueAt(i);
            if (told != shelf.leastOfSort() && told != fall.offFrom(who, i * 1000, y)) {
                return i;
            }
        }
        return NONE;
    }

    // ---- the image, what is told

    public int image() {
        pictured.become(air);
        isPictured = true;
        return air.fallerCount;
    }

    public int restore() {
        if (!isPictured) {
            return NOT_NOW;
        }
        air.become(pictured);
        return air.fallerCount;
    }

    public int count(int what) {
        switch (what) {
            case 0: return air.fallerCount;
            case 1: return air.boxCount;
            case 2: return air.windyLayers();
            case 3: return air.gust;
            case 4: return air.plane;
            case 5: return air.exitHeight;
            default: return NO_SUCH;
        }
    }

    // ---- shelves

    public int keep(int d, int what, int k) {
        Shelf shelf = shelfAt(d);
        if (shelf == null || !isFrom(0, what, 1)) {
            return NO_SUCH;
        }
        if (what == 0) {
            shelf.empty();
            return 0;
        }
        Faller who = air.fallerAt(k);
        if (who == null) {
            return NO_SUCH;
        }
        shelf.hold(who);
        return 0;
    }

    public int row(int d, int sort, int n) {
        Shelf shelf = shelfAt(d);
        if (shelf == null || !isFrom(0, sort, 2) || n > MOST_ELEMENTS) {
            return NO_SUCH;
        }
        if (n < 0) {
            return BAD_SIZE;
        }
        shelf.holdRow(sort, n);
        return 0;
    }

    public int put(int d, int i, int v) {
        Shelf shelf = shelfAt(d);
        if (shelf == null) {
            return NO_SUCH;
        }
        int refusal = refusalOfRow(shelf);
        if (refusal != 0) {
            return refusal;
        }
        if (!shelf.hasPlaces(i, 1)) {
            return NO_PLACE;
        }
        shelf.store(i, v);
        return 0;
    }

    public long element(int d, int i) throws IllegalArgumentException, IllegalStateException {
        Shelf shelf = shelfAt(d);
        if (shelf == null) {
            throw new IllegalArgumentException("no such shelf");
        }
        if (!shelf.isRow) {
            throw new IllegalStateException("no row on the shelf");
        }
        if (!shelf.hasPlaces(i, 1)) {
            throw new IllegalStateException("no such place in the row");
        }
        return shelf.valueAt(i);
    }

    public int copy(int d, int i, int e, int j, int n) {
        Shelf from = shelfAt(d);
        Shelf to = shelfAt(e);
        if (from == null || to == null) {
            return NO_SUCH;
        }
        if (from.isEmpty() || to.isEmpty()) {
            return NOTHING_HELD;
        }
        if (!from.isRow || !to.isRow || from.sort != to.sort) {
            return OTHER_KIND;
        }
        if (!from.hasPlaces(i, n) || !to.hasPlaces(j, n)) {
            return NO_PLACE;
        }
        System.arraycopy(from.elements, i, to.elements, j, n);
        return n;
    }

    public int care(int d) {
        Shelf shelf = shelfAt(d);
        if (shelf == null) {
            return NO_SUCH;
        }
        Faller who = shelf.faller;
        if (who == null) {
            return shelf.isRow ? OTHER_KIND : NOTHING_HELD;
        }
        return who.worth;
    }

    public int toss(int d) {
        Shelf shelf = shelfAt(d);
        if (shelf == null) {
            return NO_SUCH;
        }
        Faller who = shelf.faller;
        if (who == null) {
            return shelf.isRow ? OTHER_KIND : NOTHING_HELD;
        }
        try {
            who.fail();
        } catch (IllegalStateException plain) {
            return who.number;
        } catch (UnsupportedOperationException crabbed) {
            return who.number + 100;
        } catch (IllegalArgumentException stalled) {
            return 200 + who.worth;
        }
        return NO_FAILURE;
    }

    // ---- what several calls share

    private static boolean isFrom(int least, int n, int most) {
        return least <= n && n <= most;
    }

    private static boolean isPlace(int x, int y) {
        return isFrom(-EDGE, x, EDGE) && isFrom(-EDGE, y, EDGE);
    }

    private static boolean isLayer(int layer) {
        return isFrom(0, layer, LAYERS - 1);
    }

    private static boolean isGap(int gap) {
        return isFrom(1, gap, MOST_GAP);
    }

    private Shelf shelfAt(int d) {
        return isFrom(0, d, SHELVES - 1) ? shelves[d] : null;
    }

    private static int refusalOfRow(Shelf shelf) {
        if (shelf.isEmpty()) {
            return NOTHING_HELD;
        }
        return shelf.isRow ? 0 : OTHER_KIND;
    }

    private static int refusalOfBytes(Shelf shelf) {
        int refusal = refusalOfRow(shelf);
        if (refusal == 0 && shelf.sort != Shelf.BYTES) {
            return OTHER_KIND;
        }
        return refusal;
    }

    private int refusalOfLoad(Shelf shelf) {
        int refusal = refusalOfBytes(shelf);
        if (refusal != 0) {
            return refusal;
        }
        if (!isFrom(1, shelf.size, MOST_IN_LOAD)) {
            return NO_PLACE;
        }
        for (int i = 0; i < shelf.size; i++) {
            if (air.fallerAt(shelf.valueAt(i)) == null) {
                return NO_PLACE;
            }
        }
        return 0;
    }

    private int landing(int faller, int x, int y, int z, int what) {
        Faller who = air.fallerAt(faller);
        if (who == null || !isPlace(x, y) || !isFrom(0, what, 4)) {
            return BELOW + NO_SUCH;
        }
        fall.begin(who, x, y, z);
        fall.land();
        switch (what) {
            case 0: return fall.x;
            case 1: return fall.y;
            case 2: return fall.seconds;
            case 3: return fall.off();
            default: return air.bars(fall.x, fall.y) ? 1 : 0;
        }
    }

    private int loadWithin(Shelf shelf, int x, int y, int gap, int n) {
        int good = 0;
        for (int i = 0; i < shelf.size; i++) {
            Faller who = air.fallerAt(shelf.valueAt(i));
            if (who != null && fall.offFrom(who, Fall.held(x + i * gap * air.plane), y) <= n
                    && !air.bars(fall.x, fall.y)) {
                good++;
            }
        }
        return good;
    }

    private int goodBySeeds(Faller who, int x, int y, int m, int n, int z, int gust) {
        int good = 0;
        for (int i = 0; i < n; i++) {
            fall.begin(who, x, y, z + i);
            fall.gust = gust;
            fall.land();
            if (fall.off() <= m) {
                good++;
            }
        }
        return good;
    }

    /** Each OFF depends only on who leaves and on when, so 25 FALLS do for all the orders. */
    private void tellOffs(Shelf shelf, int x, int y, int gap) {
        int n = Math.min(shelf.size, MOST_IN_LOAD);
        for (int place = 0; place < n; place++) {
            Faller who = air.fallerAt(shelf.valueAt(place));
            for (int turn = 0; turn < n && who != null; turn++) {
                offs[place * MOST_IN_LOAD + turn] = fall.offFrom(who, Fall.held(x + turn * gap * air.plane), y);
            }
        }
    }

    private int sumOfOrder(int n) {
        int sum = 0;
        for (int turn = 0; turn < n; turn++) {
            sum += offs[places[turn] * MOST_IN_LOAD + turn];
        }
        return sum;
    }

    private int digitsOfOrder(int n) {
        int digits = 0;
        int worth = 1;
        for (int turn = 0; turn < n; turn++) {
            digits += places[turn] * worth;
            worth *= 10;
        }
        return digits;
    }

    /** Steps the first n places to the order that comes next by places; false: there is none. */
    private boolean nextOrder(int n) {
        int pivot = n - 2;
        while (pivot >= 0 && places[pivot] > places[pivot + 1]) {
            pivot--;
        }
        if (pivot < 0) {
            return false;
        }
        int partner = pivot + 1;
        for (int i = pivot + 2; i < n; i++) {
            if (places[i] > places[pivot]) {
                partner = i;
            }
        }
        swapPlaces(pivot, partner);
        for (int i = pivot + 1, j = n - 1; i < j; i++, j--) {
            swapPlaces(i, j);
        }
        return true;
    }

    private void swapPlaces(int i, int j) {
        int place = places[i];
        places[i] = places[j];
        places[j] = place;
    }

    private static int eastOfWay(int way) {
        switch (way) {
            case 1: case 5: case 7: return 1;
            case 2: case 6: case 8: return -1;
            default: return 0;
        }
    }

    private static int northOfWay(int way) {
        switch (way) {
            case 3: case 5: case 6: return 1;
            case 4: case 7: case 8: return -1;
            default: return 0;
        }
    }

    // ---- the KINDS

    /**
     * A FALLER, and what the other KINDS change of one. The numbers are settled as it is made, each
     * KIND's constructor going on from those of the KIND above it, and never change afterwards.
     */
    private static class Faller {
        final int number;
        final int figure;
        final int opens;
        int kind = 0;
        int falls = 120;
        int sinks = 16;
        int pace = 40;
        /** CARE. */
        int worth = 10;

        Faller(int number, int figure, int opens) {
            this.number = number;
            this.figure = figure;
            this.opens = opens;
        }

        static Faller ofKind(int kind, int number, int figure, int opens) {
            switch (kind) {
                case 1: return new Papered(number, figure, opens);
                case 2: return new Light(number, figure, opens);
                case 3: return new Heavy(number, figure, opens);
                case 4: return new Holding(number, figure, opens);
                case 5: return new Crabbing(number, figure, opens);
                case 6: return new Downwind(number, figure, opens);
                case 7: return new Stalled(number, figure, opens);
                default: return new Faller(number, figure, opens);
            }
        }

        int driftOf(int wind) {
            return wind;
        }

        boolean isToSteer(int x, int y) {
            return true;
        }

        boolean steersAlongX(int x, int y, int east, int north) {
            return Math.abs(x) >= Math.abs(y);
        }

        /** How far it steers along the one line on which it does: its place there and the WIND along it. */
        int stepAlong(int place, int wind) {
            int step = Math.min(pace, Math.abs(place));
            return place > 0 ? -step : step;
        }

        final int steerEast(int x, int y, int east, int north) {
            return isToSteer(x, y) && steersAlongX(x, y, east, north) ? stepAlong(x, east) : 0;
        }

        final int steerNorth(int x, int y, int east, int north) {
            return isToSteer(x, y) && !steersAlongX(x, y, east, north) ? stepAlong(y, north) : 0;
        }

        /** Throws its FAILURE; comes back if it has none. */
        void fail() {
            if (figure != 0) {
                throw new IllegalStateException("a faller fails");
            }
        }
    }

    private static final class Papered extends Faller {
        Papered(int number, int figure, int opens) {
            super(number, figure, opens);
            kind = 1;
            sinks += 4;
            pace = 0;
            worth -= 9;
        }

        @Override
        boolean isToSteer(int x, int y) {
            return false;
        }

        @Override
        void fail() {
            // Papers have no FAILURE, whatever their FIGURE.
        }
    }

    private static final class Light extends Faller {
        Light(int number, int figure, int opens) {
            super(number, figure, opens);
            kind = 2;
            falls -= 20;
            sinks -= 3;
            pace -= 6;
            worth += figure;
        }

        @Override
        int driftOf(int wind) {
            return super.driftOf(wind) * 5 / 4;
        }
    }

    private static class Heavy extends Faller {
        Heavy(int number, int figure, int opens) {
            super(number, figure, opens);
            kind = 3;
            falls += 25;
            sinks += 5;
            pace += 4;
            worth *= 2;
        }

        @Override
        int driftOf(int wind) {
            return super.driftOf(wind) * 4 / 5;
        }
    }

    private static class Holding extends Faller {
        Holding(int number, int figure, int opens) {
            super(number, figure, opens);
            kind = 4;
            sinks += figure;
            pace /= 2;
            worth += opens;
        }

        @Override
        boolean isToSteer(int x, int y) {
            return Math.abs(x) > 100 * figure || Math.abs(y) > 100 * figure;
        }
    }

    private static final class Crabbing extends Holding {
        Crabbing(int number, int figure, int opens) {
            super(number, figure, opens);
            kind = 5;
            sinks -= 2;
            pace += 10;
            worth += 3;
        }

        @Override
        boolean steersAlongX(int x, int y, int east, int north) {
            return Math.abs(north) > Math.abs(east);
        }

        @Override
        void fail() {
            if (figure != 0) {
                throw new UnsupportedOperationException("a crabbing one fails");
            }
        }
    }

    private static final class Downwind extends Faller {
        Downwind(int number, int figure, int opens) {
            super(number, figure, opens);
            kind = 6;
            sinks += 2;
            pace += figure * 3;
            worth *= figure;
        }

        @Override
        boolean steersAlongX(int x, int y, int east, int north) {
            return Math.abs(east) >= Math.abs(north);
        }

        @Override
        int stepAlong(int place, int wind) {
            return Integer.signum(wind) * pace;
        }
    }

    private static final class Stalled extends Heavy {
        Stalled(int number, int figure, int opens) {
            super(number, figure, opens);
            kind = 7;
            sinks += 10;
            pace = 0;
            worth += 50;
        }

        @Override
        int driftOf(int wind) {
            return super.driftOf(wind) / 2;
        }

        @Override
        boolean isToSteer(int x, int y) {
            return false;
        }

        @Override
        void fail() {
            if (figure != 0) {
                throw new IllegalArgumentException("a stalled one fails");
            }
        }
    }

    // ---- what a SHELF holds

    /** Holds nothing, a FALLER or a ROW; the ROW's elements are made once and used again. */
    private static final class Shelf {
        static final int BYTES = 0;
        static final int SHORTS = 1;

        Faller faller = null;
        boolean isRow = false;
        int sort = BYTES;
        int size = 0;
        final int[] elements = new int[MOST_ELEMENTS];

        boolean isEmpty() {
            return faller == null && !isRow;
        }

        void empty() {
            faller = null;
            isRow = false;
            size = 0;
        }

        void hold(Faller who) {
            empty();
            faller = who;
        }

        void holdRow(int newSort, int n) {
            empty();
            isRow = true;
            sort = newSort;
            size = Math.max(0, Math.min(n, MOST_ELEMENTS));
            for (int i = 0; i < size; i++) {
                elements[i] = 0;
            }
        }

        boolean hasPlaces(int i, int n) {
            return i >= 0 && n >= 0 && n <= size && i <= size - n;
        }

        void store(int i, int v) {
            if (hasPlaces(i, 1)) {
                elements[i] = sort == BYTES ? (byte) v : sort == SHORTS ? (short) v : v;
            }
        }

        /** Behind the end -1, which no AIR has as a byte. */
        int valueAt(int i) {
            return hasPlaces(i, 1) ? elements[i] : -1;
        }

        int leastOfSort() {
            return sort == BYTES ? -128 : sort == SHORTS ? -32768 : Integer.MIN_VALUE;
        }
    }

    // ---- a FALL

    /** A FALL as far as it has gone; it belongs to one air and is begun again and again. */
    private static final class Fall {
        final Air over;
        Faller faller = new Faller(0, 0, 0);
        int x = 0;
        int y = 0;
        int height = 0;
        int seconds = 0;
        int gust = 0;
        private int opens = 0;
        private int seed = 0;
        private boolean isWayHeld = false;
        private int wayEast = 0;
        private int wayNorth = 0;

        Fall(Air over) {
            this.over = over;
        }

        static int held(int place) {
            return Math.max(-EDGE, Math.min(place, EDGE));
        }

        void begin(Faller who, int fromX, int fromY, int z) {
            faller = who;
            x = fromX;
            y = fromY;
            seed = z;
            height = over.exitHeight;
            gust = over.gust;
            opens = who.opens;
            seconds = 0;
            isWayHeld = false;
        }

        /** From here on, once open, it goes so in place of what it STEERS. */
        void holdWay(int east, int north) {
            isWayHeld = true;
            wayEast = east;
            wayNorth = north;
        }

        void openAt(int feet) {
            height = feet;
            opens = 0;
        }

        boolean hasLanded() {
            return height <= 0;
        }

        void land() {
            goOn(MOST_SECONDS);
        }

        /** OFF of a whole FALL; x and y stay where it landed. */
        int offFrom(Faller who, int fromX, int fromY) {
            begin(who, fromX, fromY, FIRST_SEED);
            goOn(MOST_SECONDS);
            return off();
        }

        void goOn(int n) {
            for (int s = 0; s < n && height > 0; s++) {
                int layer = Math.max(0, Math.min(height / 300, LAYERS - 1));
                if (seconds < opens) {
                    plunge(over.east[layer], over.north[layer]);
                } else {
                    sink(over.east[layer] + (layer == 0 ? puff() : 0), over.north[layer]);
                }
                seconds++;
                x = held(x);
                y = held(y);
                height = Math.max(0, height);
            }
        }

        private void plunge(int east, int north) {
            x += over.plane * Math.max(0, 10 - seconds) / 10 + faller.driftOf(east) / 2;
            y += faller.driftOf(north) / 2;
            height -= faller.falls;
        }

        private void sink(int east, int north) {
            int steeredEast = isWayHeld ? wayEast : faller.steerEast(x, y, east, north);
            int steeredNorth = isWayHeld ? wayNorth : faller.steerNorth(x, y, east, north);
            x += steeredEast + faller.driftOf(east);
            y += steeredNorth + faller.driftOf(north);
            height -= faller.sinks;
        }

        /** What a DRAW adds to EAST. */
        private int puff() {
            if (gust <= 0) {
                return 0;
            }
            seed = seed * 1103515245 + 12345;
            return (seed & Integer.MAX_VALUE) / 65536 % (2 * gust + 1) - gust;
        }

        int off() {
            return Math.abs(x) + Math.abs(y);
        }

        int apartFrom(Fall other) {
            return Math.abs(x - other.x) + Math.abs(y - other.y) + Math.abs(height - other.height);
        }
    }

    // ---- an AIR

    /** All that THE IMAGE keeps; AIRS are read into a draft of it, so that a FAULT leaves nothing behind. */
    private static final class Air {
        private static final int MOST_FALLERS = 8;
        private static final int MOST_BOXES = 6;
        private static final int MOST_WIND = 90;
        private static final int MOST_YARDS = 3000;

        /** How STATEMENTS go on behind their letter: d a digit, s a sign, n a NUMBER, others themselves. */
        private static final String WIND_FORM = "dsnsn;";
        private static final String GUST_FORM = "n;";
        private static final String PLANE_FORM = "n n;";
        private static final String FALLER_FORM = "dd n;";
        private static final String BOX_FORM = "snsnsnsn;";

        final int[] east = new int[LAYERS];
        final int[] north = new int[LAYERS];
        int gust = 0;
        int plane = 400;
        int exitHeight = 2000;
        private final Faller[] fallers = new Faller[MOST_FALLERS];
        int fallerCount = 0;
        /** West, south, east and north end of each box, in tenths. */
        private final int[] boxes = new int[4 * MOST_BOXES];
        int boxCount = 0;
        /** The numbers of the STATEMENT that was read last. */
        private final int[] told = new int[4];

        void become(Air other) {
            System.arraycopy(other.east, 0, east, 0, LAYERS);
            System.arraycopy(other.north, 0, north, 0, LAYERS);
            System.arraycopy(other.boxes, 0, boxes, 0, 4 * MOST_BOXES);
            for (int k = 0; k < MOST_FALLERS; k++) {
                fallers[k] = other.fallers[k];
            }
            gust = other.gust;
            plane = other.plane;
            exitHeight = other.exitHeight;
            fallerCount = other.fallerCount;
            boxCount = other.boxCount;
        }

        Faller fallerAt(int k) {
            return k >= 0 && k < fallerCount && k < MOST_FALLERS ? fallers[k] : null;
        }

        boolean bars(int x, int y) {
            for (int b = 0; b < boxCount && b < MOST_BOXES; b++) {
                if (isFrom(boxes[4 * b], x, boxes[4 * b + 2]) && isFrom(boxes[4 * b + 1], y, boxes[4 * b + 3])) {
                    return true;
                }
            }
            return false;
        }

        int windyLayers() {
            int windy = 0;
            for (int layer = 0; layer < LAYERS; layer++) {
                if (east[layer] != 0 || north[layer] != 0) {
                    windy++;
                }
            }
            return windy;
        }

        /** Takes up all the STATEMENTS of a text: how many, or the FAULT. */
        int readFrom(Shelf text) {
            int statements = 0;
            int place = 0;
            int wrongAt = -1;
            // A FAULT of kind 1 further on goes ahead of one of kind 2, so reading goes on behind that.
            while (statements < MOST_ELEMENTS && (statements == 0 || place < text.size)) {
                int behind = scan(text, place);
                if (behind < 0) {
                    return -1000 - ~behind;
                }
                if (wrongAt < 0 && isAsTold(text.valueAt(place))) {
                    takeUp(text.valueAt(place));
                } else if (wrongAt < 0) {
                    wrongAt = place;
                }
                place = behind;
                statements++;
            }
            return wrongAt < 0 ? statements : -2000 - wrongAt;
        }

        /** Reads one STATEMENT into told: the place behind it, or ~ of the place where it can't go on. */
        private int scan(Shelf text, int start) {
            String form = formOf(text.valueAt(start));
            if (form.isEmpty()) {
                return ~start;
            }
            int place = start + 1;
            int numbers = 0;
            boolean isBelow = false;
            for (int i = 0; i < form.length(); i++) {
                char part = form.charAt(i);
                int found = text.valueAt(place);
                if (!isAsFormed(part, found)) {
                    return ~place;
                }
                int behind = part == 'n' ? behindNumber(text, place) : place + 1;
                if ((part == 'n' || part == 'd') && numbers < told.length) {
                    int number = numberBetween(text, place, behind);
                    told[numbers] = isBelow ? -number : number;
                    numbers++;
                }
                isBelow = part == 's' && found == '-';
                place = behind;
            }
            return place;
        }

        private static String formOf(int letter) {
            switch (letter) {
                case 'l': return WIND_FORM;
                case 'g': return GUST_FORM;
                case 'a': return PLANE_FORM;
                case 'f': return FALLER_FORM;
                case 'b': return BOX_FORM;
                default: return "";
            }
        }

        private static boolean isAsFormed(char part, int found) {
            switch (part) {
                case 'd': case 'n': return isDigit(found);
                case 's': return found == '+' || found == '-';
                default: return found == part;
            }
        }

        private static boolean isDigit(int found) {
            return isFrom('0', found, '9');
        }

        /** A digit too many is left standing: whatever the form has next refuses it at its place. */
        private static int behindNumber(Shelf text, int start) {
            int most = text.valueAt(start) == '0' ? 1 : 4;
            int digits = 0;
            while (digits < most && isDigit(text.valueAt(start + digits))) {
                digits++;
            }
            return start + digits;
        }

        private static int numberBetween(Shelf text, int start, int behind) {
            int number = 0;
            for (int place = start; place < behind; place++) {
                number = number * 10 + text.valueAt(place) - '0';
            }
            return number;
        }

        /** Whether the STATEMENT that was read last is as told, and has room. */
        private boolean isAsTold(int letter) {
            switch (letter) {
                case 'l': return isLayer(told[0]) && isWind(told[1]) && isWind(told[2]);
                case 'g': return isFrom(0, told[0], MOST_GUST);
                case 'a': return isFrom(0, told[0], MOST_PLANE) && isFrom(LOWEST_EXIT, told[1], HIGHEST_EXIT);
                case 'f': return isFrom(0, told[0], KINDS - 1) && isFrom(0, told[2], MOST_OPENS)
                        && fallerCount < MOST_FALLERS;
                default: return isYards(told[0]) && isYards(told[1]) && isYards(told[2]) && isYards(told[3])
                        && boxCount < MOST_BOXES;
            }
        }

        /** Does what the STATEMENT that was read last says; only if it is as told. */
        private void takeUp(int letter) {
            switch (letter) {
                case 'l':
                    east[told[0]] = told[1];
                    north[told[0]] = told[2];
                    break;
                case 'g':
                    gust = told[0];
                    break;
                case 'a':
                    plane = told[0];
                    exitHeight = told[1];
                    break;
                case 'f':
                    fallers[fallerCount] = Faller.ofKind(told[0], fallerCount, told[1], told[2]);
                    fallerCount++;
                    break;
                default:
                    boxes[4 * boxCount] = 10 * Math.min(told[0], told[2]);
                    boxes[4 * boxCount + 1] = 10 * Math.min(told[1], told[3]);
                    boxes[4 * boxCount + 2] = 10 * Math.max(told[0], told[2]);
                    boxes[4 * boxCount + 3] = 10 * Math.max(told[1], told[3]);
                    boxCount++;
                    break;
            }
        }

        private static boolean isWind(int tenths) {
            return isFrom(-MOST_WIND, tenths, MOST_WIND);
        }

        private static boolean isYards(int yards) {
            return isFrom(-MOST_YARDS, yards, MOST_YARDS);
        }
    }
}
