import java.util.function.Consumer;

/**
 * The numbers that each promise's call takes and refuses, on both sides of each bound: a refused call throws just
 * what the document names, and changes nothing. Each call is made on a picture of its own that has samples, a
 * result and a rest, so that a change would be seen.
 */
public final class CallTests {
    private static final int MIN = Integer.MIN_VALUE;
    private static final int MAX = Integer.MAX_VALUE;
    private static final int WIDTH = 3;
    private static final int HEIGHT = 2;

    public static void main(String[] args) {
        putPlaces();
        putSamples();
        paintTakesAll();
        paintSteps();
        paintCountsOthers();
        localNumbers();
        spreadKinds();
        orderedCells();
        joinBounds();
        cleanNumbers();
        atPlaces();
        sumRectangles();
        sumAtTheFarEnds();
        sumsOfSamples();
        cellNumbers();
        toldNumbers();
        toldCounts();
        invertTwice();
        clearIsAsAtFirst();
        Check.end();
    }

    private static LocalBounds seasoned() {
        LocalBounds picture = Check.picture(WIDTH, 0, 100, 255, 200, 127, 128);
        picture.spread(0);
        picture.invert();
        return picture;
    }

    private static void takes(String what, Consumer<LocalBounds> call) {
        LocalBounds picture = seasoned();
        Check.same(what + " throws", Check.thrownBy(() -> call.accept(picture)), "nothing");
    }

    private static void refuses(String what, Class<?> due, Consumer<LocalBounds> call) {
        LocalBounds picture = seasoned();
        Check.refuses(what, picture, due, () -> call.accept(picture));
    }

    private static void index(String what, boolean taken, Consumer<LocalBounds> call) {
        if (taken) {
            takes(what, call);
        } else {
            refuses(what, IndexOutOfBoundsException.class, call);
        }
    }

    private static void argument(String what, boolean taken, Consumer<LocalBounds> call) {
        if (taken) {
            takes(what, call);
        } else {
            refuses(what, IllegalArgumentException.class, call);
        }
    }

    private static boolean isPlace(int x, int y) {
        return 0 <= x && x < WIDTH && 0 <= y && y < HEIGHT;
    }

    private static final int[] PLACES = {MIN, -256, -3, -2, -1, 0, 1, 2, 3, 4, 15, 16, 256, MAX};

    // "IndexOutOfBounds: there is no such sample." For put, whatever it is to put there.
    private static void putPlaces() {
        for (int x : PLACES) {
            for (int y : PLACES) {
                for (int v : new int[] {0, 255}) {
                    String what = "put(" + x + ", " + y + ", " + v + ")";
                    index(what, isPlace(x, y), picture -> picture.put(x, y, v));
                }
                if (!isPlace(x, y)) {
                    for (int v : new int[] {-1, 256, MIN, MAX}) {
                        String what = "put(" + x + ", " + y + ", " + v + ")";
                        index(what, false, picture -> picture.put(x, y, v));
                    }
                }
            }
        }
    }

    // "IllegalArgument: another number is none that is told": at each place, the last one too.
    private static void putSamples() {
        for (int v : new int[] {MIN, -256, -2, -1, 0, 1, 127, 128, 254, 255, 256, 257, 512, MAX}) {
            boolean taken = 0 <= v && v <= 255;
            argument("put(0, 0, " + v + ")", taken, picture -> picture.put(0, 0, v));
            argument("put(2, 1, " + v + ")", taken, picture -> picture.put(2, 1, v));
            if (taken) {
                LocalBounds picture = seasoned();
                Check.same("put: the one before", picture.put(2, 1, v), 128);
                Check.same("put: it", picture.put(2, 1, 0), v);
                Check.same("put: 0", picture.put(2, 1, 0), 0);
            }
        }
    }

    private static void paintTakesAll() {
        for (int v : new int[] {MIN, -1, 0, 255, 256, MAX}) {
            for (int step : new int[] {MIN, -1, 0, 255, 256, MAX}) {
                takes("paint(" + v + ", " + step + ")", picture -> picture.paint(v, step));
            }
        }
    }

    // "All samples, row by row: v, then each the step more, as its rest by 256", in the greatest picture too.
    private static void paintSteps() {
        int[] values = {0, 1, 255, 256, -1, -256, MIN, MIN + 1, MAX, MAX - 255};
        int[] steps = {0, 1, -1, 16, 255, 256, 257, -255, -256, -257, MIN, MIN + 3, MAX, MAX - 1};
        for (int v : values) {
            for (int step : steps) {
                LocalBounds picture = new LocalBounds(16, 16);
                picture.paint(v, step);
                for (int i = 0; i < 256; i++) {
                    long due = Math.floorMod((long) v + (long) step * i, 256L);
                    String what = "paint(" + v + ", " + step + "), " + i;
                    Check.same(what, picture.sum(i % 16, i / 16, 1, 1, false), due);
                }
            }
        }
    }

    // "how many are other ones": none, one, all but one, all.
    private static void paintCountsOthers() {
        LocalBounds picture = new LocalBounds(16, 16);
        Check.same("paint what is there", picture.paint(0, 0), 0);
        Check.same("paint what is there, as rests", picture.paint(256, -512), 0);
        picture.put(15, 15, 1);
        Check.same("paint one", picture.paint(0, 0), 1);
        picture.put(0, 0, 9);
        Check.same("paint all but one", picture.paint(9, 0), 255);
        Check.same("paint all", picture.paint(10, 0), 256);
        Check.same("paint steps over one that is there", picture.paint(0, 1), 255);
        Check.same("paint every second one", picture.paint(0, 129), 128);
    }

    // Promise 5: "the size is not odd, or not 1 .. 31, or the share not 0 .. 64."
    private static void localNumbers() {
        int[] shares = {MIN, -64, -1, 0, 1, 63, 64, 65, 66, 128, MAX};
        for (int share : shares) {
            boolean shareTaken = 0 <= share && share <= 64;
            for (int size = -5; size <= 36; size++) {
                boolean taken = shareTaken && size % 2 != 0 && 1 <= size && size <= 31;
                local(size, share, taken);
            }
            for (int size : new int[] {MIN, MIN + 1, -31, 255, 257, MAX - 1, MAX}) {
                local(size, share, false);
            }
        }
        for (int share = -3; share <= 68; share++) {
            local(3, share, 0 <= share && share <= 64);
        }
    }

    private static void local(int size, int share, boolean taken) {
        argument("local(" + size + ", " + share + ")", taken, picture -> picture.local(size, share));
    }

    // Promise 6: "the kind is not 0 .. 2."
    private static void spreadKinds() {
        for (int kind : new int[] {MIN, -2, -1, 0, 1, 2, 3, 4, 256, MAX}) {
            argument("spread(" + kind + ")", 0 <= kind && kind <= 2, picture -> picture.spread(kind));
        }
    }

    private static boolean isCells(int cells) {
        return cells == 1 || cells == 2 || cells == 4 || cells == 8;
    }

    // Promise 8: "the cells are not 1, 2, 4 or 8."
    private static void orderedCells() {
        for (int cells = -17; cells <= 33; cells++) {
            int n = cells;
            argument("ordered(" + n + ")", isCells(n), picture -> picture.ordered(n));
        }
        for (int n : new int[] {MIN, 64, 256, 1 << 30, MAX}) {
            argument("ordered(" + n + ")", false, picture -> picture.ordered(n));
        }
    }

    // Promise 9: "low is above high, or one is not -1 .. 255."
    private static void joinBounds() {
        int[] bounds = {MIN, -256, -3, -2, -1, 0, 1, 2, 127, 128, 253, 254, 255, 256, 257, MAX};
        for (int low : bounds) {
            for (int high : bounds) {
                boolean taken = low <= high && -1 <= low && high <= 255;
                argument("join(" + low + ", " + high + ")", taken, picture -> picture.join(low, high));
            }
        }
    }

    // Promise 10: "the number is not 0 .. 256."
    private static void cleanNumbers() {
        for (int most : new int[] {MIN, -256, -2, -1, 0, 1, 6, 7, 255, 256, 257, 258, MAX}) {
            argument("clean(" + most + ")", 0 <= most && most <= 256, picture -> picture.clean(most));
        }
    }

    // Promise 13: each place of the picture, and those round it.
    private static void atPlaces() {
        for (int x : PLACES) {
            for (int y : PLACES) {
                index("at(" + x + ", " + y + ")", isPlace(x, y), picture -> picture.at(x, y));
            }
        }
    }

    // Promise 14: "a side is below 0, or it is not all in the picture (x and y may be just beyond it then)."
    private static void sumRectangles() {
        for (int x = -2; x <= WIDTH + 2; x++) {
            for (int y = -2; y <= HEIGHT + 2; y++) {
                for (int width = -2; width <= WIDTH + 2; width++) {
                    for (int height = -2; height <= HEIGHT + 2; height++) {
                        boolean across = 0 <= x && 0 <= width && x + width <= WIDTH;
                        boolean down = 0 <= y && 0 <= height && y + height <= HEIGHT;
                        sum(x, y, width, height, across && down);
                    }
                }
            }
        }
    }

    private static void sum(int x, int y, int width, int height, boolean taken) {
        String what = "sum(" + x + ", " + y + ", " + width + ", " + height + ")";
        argument(what, taken, picture -> picture.sum(x, y, width, height, false));
        argument(what + " of squares", taken, picture -> picture.sum(x, y, width, height, true));
    }

    // Ends that wrap around when they are added up are not in the picture.
    private static void sumAtTheFarEnds() {
        int[] far = {MIN, MIN + 1, MAX, MAX - 1};
        for (int one : far) {
            sum(one, 0, 0, 0, false);
            sum(0, one, 0, 0, false);
            sum(0, 0, one, 0, false);
            sum(0, 0, 0, one, false);
            sum(1, 0, one, 1, false);
            sum(0, 1, 1, one, false);
            sum(one, 0, 1, 1, false);
            sum(0, one, 1, 1, false);
            for (int other : far) {
                sum(one, 0, other, 1, false);
                sum(0, one, 1, other, false);
                sum(one, one, other, other, false);
            }
        }
    }

    // .. and the sums of all rectangles that are in it, empty ones too.
    private static void sumsOfSamples() {
        int[][] grey = {{0, 100, 255}, {200, 127, 128}};
        LocalBounds picture = seasoned();
        for (int x = 0; x <= WIDTH; x++) {
            for (int y = 0; y <= HEIGHT; y++) {
                for (int width = 0; width <= WIDTH - x; width++) {
                    for (int height = 0; height <= HEIGHT - y; height++) {
                        long sum = 0;
                        long squares = 0;
                        for (int j = y; j < y + height; j++) {
                            for (int i = x; i < x + width; i++) {
                                sum += grey[j][i];
                                squares += grey[j][i] * grey[j][i];
                            }
                        }
                        String what = "sum(" + x + ", " + y + ", " + width + ", " + height + ")";
                        Check.same(what, picture.sum(x, y, width, height, false), sum);
                        Check.same(what + " of squares", picture.sum(x, y, width, height, true), squares);
                    }
                }
            }
        }
        LocalBounds light = new LocalBounds(16, 16);
        light.paint(255, 0);
        Check.same("the greatest sum", light.sum(0, 0, 16, 16, false), 256 * 255);
        Check.same("the greatest sum of squares", light.sum(0, 0, 16, 16, true), 256 * 255 * 255);
        Check.same("just beyond", light.sum(16, 16, 0, 0, true), 0);
    }

    // Promise 15: "the cells; or x or y is below 0."
    private static void cellNumbers() {
        int[] places = {MIN, -8, -2, -1, 0, 1, 15, 16, MAX};
        for (int cells = -9; cells <= 17; cells++) {
            for (int x : places) {
                for (int y : places) {
                    cell(cells, x, y, isCells(cells) && x >= 0 && y >= 0);
                }
            }
        }
        for (int cells : new int[] {MIN, 32, 256, 1 << 30, MAX}) {
            cell(cells, 0, 0, false);
        }
    }

    private static void cell(int cells, int x, int y, boolean taken) {
        argument("cell(" + cells + ", " + x + ", " + y + ")", taken, picture -> picture.cell(cells, x, y));
    }

    // Promise 16: "NONE for another what."
    private static void toldNumbers() {
        Check.same("NONE", LocalBounds.NONE, -1);
        for (int what : new int[] {MIN, -256, -2, -1, 5, 6, 256, MAX}) {
            Check.same("told(" + what + ")", seasoned().told(what), LocalBounds.NONE);
        }
        int[] due = {WIDTH, HEIGHT, 2, 2, 6};
        LocalBounds picture = Check.picture(WIDTH, 0, 200, 201, 202, 127, 128);
        picture.ordered(1);
        for (int what = 0; what < due.length; what++) {
            Check.same("told(" + what + ")", picture.told(what), due[what]);
        }
    }

    // Black ones, parts and different samples: none, one, all that a picture can have.
    private static void toldCounts() {
        LocalBounds picture = new LocalBounds(16, 16);
        counts("at first", picture, 0, 0, 1);
        picture.invert();
        counts("all black", picture, 256, 1, 1);
        picture.paint(0, 1);
        counts("all samples there are", picture, 256, 1, 256);
        picture.paint(0, 2);
        counts("half of them", picture, 256, 1, 128);
        picture.paint(0, 128);
        picture.ordered(1);
        counts("eight columns", picture, 128, 8, 2);
        for (int y = 0; y < 16; y++) {
            for (int x = 0; x < 16; x++) {
                picture.put(x, y, (x + y) % 2 == 0 ? 0 : 255);
            }
        }
        picture.ordered(1);
        counts("corners alone", picture, 128, 128, 2);
        picture.put(1, 0, 254);
        picture.join(254, 254);
        counts("three of them joined", picture, 129, 126, 3);
        counts("a row's end and the next one's start", Check.withResult("..#/#.."), 2, 2, 2);
        counts("a part round", Check.withResult("###/#.#/###"), 8, 1, 2);
    }

    private static void counts(String what, LocalBounds picture, int black, int parts, int greys) {
        Check.same("black ones: " + what, picture.told(2), black);
        Check.same("parts: " + what, picture.told(3), parts);
        Check.same("different samples: " + what, picture.told(4), greys);
    }

    // Promise 12: all white, all black, and one alone.
    private static void invertTwice() {
        LocalBounds picture = new LocalBounds(16, 16);
        Check.same("invert white", picture.invert(), 256);
        Check.same("invert black", picture.invert(), 0);
        LocalBounds one = Check.withResult("..#/...");
        Check.same("invert one", one.invert(), 5);
        Check.same("invert one", Check.result(one), "##./###");
        Check.same("invert again", one.invert(), 1);
        Check.same("invert again", Check.result(one), "..#/...");
        Check.same("one by one", new LocalBounds(0, 0).invert(), 1);
    }

    // Promise 17: "All is as at first": samples, result, rest; the sides stay.
    private static void clearIsAsAtFirst() {
        LocalBounds picture = seasoned();
        picture.clear();
        Check.same("clear", Check.state(picture), Check.state(new LocalBounds(WIDTH, HEIGHT)));
        picture.clear();
        Check.same("clear again", Check.state(picture), Check.state(new LocalBounds(WIDTH, HEIGHT)));
        LocalBounds full = new LocalBounds(16, 16);
        full.paint(255, -1);
        full.spread(2);
        full.invert();
        full.clear();
        counts("cleared", full, 0, 0, 1);
        Check.same("cleared: the rest", full.rest(), 0);
        Check.same("cleared: the samples", full.sum(0, 0, 16, 16, false), 0);
        Check.same("cleared: the sides", full.told(0) * full.told(1), 256);
        Check.same("cleared: global", full.global(), -1);
    }
}
