/** DRAWS, as the document tells them, and some of them written out. */
final class Draws {
    /** The first DRAWS of seed 1, ahead of the modulo. */
    static final int[] OF_ONE = {16838, 5758, 10113, 17515, 31051, 5627, 23010, 7419, 16212, 4086, 2749, 12767, 9084, 12060};

    /** The first DRAW of the seeds -1, 0, 1, 2, 3, 4, 5, ahead of the modulo. */
    static final int[] FIRST = {15929, 0, 16838, 908, 17747, 1817, 18655};

    /** What a DRAW adds to EAST. */
    static int puff(int draw, int gust) {
        return draw % (2 * gust + 1) - gust;
    }

    /** What the first n DRAWS of a seed add to EAST together. */
    static int puffs(int z, int gust, int n) {
        int sum = 0;
        for (int i = 0; i < n; i++) {
            z = z * 1103515245 + 12345;
            sum += puff((int) ((z & 0x7fffffffL) / 65536), gust);
        }
        return sum;
    }

    private Draws() { }
}
