/**
 * What "Terms" says of ORDERED and its cells: each sentence that names a boundary stands over its test, which
 * holds it on both sides; what is due was worked out by hand.
 */
public final class OrderedTests {
    private static final int MAX = Integer.MAX_VALUE;

    private static final int[][] CELLS_1 = {{0}};
    private static final int[][] CELLS_2 = {
        {0, 2},
        {3, 1}};
    private static final int[][] CELLS_4 = {
        {0, 8, 2, 10},
        {12, 4, 14, 6},
        {3, 11, 1, 9},
        {15, 7, 13, 5}};
    private static final int[][] CELLS_8 = {
        {0, 32, 8, 40, 2, 34, 10, 42},
        {48, 16, 56, 24, 50, 18, 58, 26},
        {12, 44, 4, 36, 14, 46, 6, 38},
        {60, 28, 52, 20, 62, 30, 54, 22},
        {3, 35, 11, 43, 1, 33, 9, 41},
        {51, 19, 59, 27, 49, 17, 57, 25},
        {15, 47, 7, 39, 13, 45, 5, 37},
        {63, 31, 55, 23, 61, 29, 53, 21}};
    private static final int[][][] ALL_CELLS = {CELLS_1, CELLS_2, CELLS_4, CELLS_8};

    public static void main(String[] args) {
        for (int[][] cells : ALL_CELLS) {
            numbersOfCells(cells);
            cellsComeAgain(cells);
            cellsFarAway(cells);
            belowTheBound(cells);
            restsInThePicture(cells);
        }
        lightestAndDarkest();
        Check.end();
    }

    // "CELL(1) is 0; CELL(2 n) has 4 CELL(n) at its upper left, that and 2 at its upper right, ..": each cell.
    private static void numbersOfCells(int[][] cells) {
        int n = cells.length;
        LocalBounds picture = new LocalBounds(1, 1);
        for (int y = 0; y < n; y++) {
            for (int x = 0; x < n; x++) {
                Check.same("cell(" + n + ", " + x + ", " + y + ")", picture.cell(n, x, y), cells[y][x]);
            }
        }
    }

    // "the rests of x and y by n": the last cell of a side, and the first one again, in the picture or beyond it.
    private static void cellsComeAgain(int[][] cells) {
        int n = cells.length;
        LocalBounds picture = new LocalBounds(3, 2);
        for (int x : new int[] {0, n - 1, n, n + 1, 2 * n - 1, 2 * n, 15, 16, 17}) {
            for (int y : new int[] {0, n - 1, n, n + 1, 2 * n - 1, 2 * n, 15, 16, 17}) {
                Check.same("cell(" + n + ", " + x + ", " + y + ")", picture.cell(n, x, y), cells[y % n][x % n]);
            }
        }
    }

    private static void cellsFarAway(int[][] cells) {
        int n = cells.length;
        LocalBounds picture = new LocalBounds(16, 16);
        String what = "cell(" + n + ") far away";
        Check.same(what, picture.cell(n, MAX, MAX), cells[n - 1][n - 1]);
        Check.same(what, picture.cell(n, MAX, 0), cells[0][n - 1]);
        Check.same(what, picture.cell(n, 0, MAX), cells[n - 1][0]);
        Check.same(what, picture.cell(n, MAX - 7, 0), cells[0][0]);
        Check.same(what, picture.cell(n, 1 << 30, 1 << 30), cells[0][0]);
    }

    // "A sample is black if 2 n n v is below 256 (2 c + 1)": the greatest v that is, and the next one.
    private static void belowTheBound(int[][] cells) {
        int n = cells.length;
        LocalBounds picture = new LocalBounds(n, n);
        putBounds(picture, cells, -1);
        Check.same("ordered(" + n + ") below the bounds", picture.ordered(n), n * n);
        putBounds(picture, cells, 0);
        Check.same("ordered(" + n + ") at the bounds", picture.ordered(n), 0);
        // One alone is below: no cell stands for another one.
        LocalBounds one = new LocalBounds(n, n);
        putBounds(one, cells, 0);
        int last = n - 1;
        one.put(last, 0, bound(cells, last, 0) - 1);
        Check.same("ordered(" + n + "), one below", one.ordered(n), 1);
        Check.same("ordered(" + n + "), one below", one.at(last, 0), true);
    }

    private static void putBounds(LocalBounds picture, int[][] cells, int more) {
        for (int y = 0; y < cells.length; y++) {
            for (int x = 0; x < cells.length; x++) {
                picture.put(x, y, bound(cells, x, y) + more);
            }
        }
    }

    /** 128 n n divides by 2 n n without a rest, and 256 (2 c + 1) too, as n is at most 8. */
    private static int bound(int[][] cells, int x, int y) {
        int n = cells.length;
        return 256 * (2 * cells[y][x] + 1) / (2 * n * n);
    }

    // "c being the cell's number at the rests of x and y by n", in the greatest picture.
    private static void restsInThePicture(int[][] cells) {
        int n = cells.length;
        for (int v : new int[] {0, 1, 2, 31, 32, 100, 127, 128, 200, 253, 254, 255}) {
            LocalBounds picture = new LocalBounds(16, 16);
            picture.paint(v, 0);
            int black = 0;
            picture.ordered(n);
            for (int y = 0; y < 16; y++) {
                for (int x = 0; x < 16; x++) {
                    boolean due = v < bound(cells, x % n, y % n);
                    black += due ? 1 : 0;
                    Check.same("ordered(" + n + ") of " + v + " at " + x + ", " + y, picture.at(x, y), due);
                }
            }
            Check.same("ordered(" + n + ") of " + v + " again", picture.ordered(n), black);
        }
    }

    // Samples of 0 are black in each cell, and of 255 in none; 253 of the 8 x 8 cells' last, below 254, is black.
    private static void lightestAndDarkest() {
        for (int cells : new int[] {1, 2, 4, 8}) {
            LocalBounds picture = new LocalBounds(16, 16);
            Check.same("ordered(" + cells + ") of 0", picture.ordered(cells), 256);
            picture.paint(255, 0);
            Check.same("ordered(" + cells + ") of 255", picture.ordered(cells), 0);
        }
        LocalBounds light = new LocalBounds(16, 16);
        light.paint(253, 0);
        Check.same("ordered(8) of 253", light.ordered(8), 4);
        light.paint(254, 0);
        Check.same("ordered(8) of 254", light.ordered(8), 0);
        light.paint(1, 0);
        Check.same("ordered(8) of 1", light.ordered(8), 256);
        light.paint(2, 0);
        Check.same("ordered(8) of 2", light.ordered(8), 252);
    }
}
