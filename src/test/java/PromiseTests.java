/** For each promise of the document: ordinary calls, its edges, and wrong inputs, worked out by hand. */
public final class PromiseTests {
    private static final Class<?> INDEX = IndexOutOfBoundsException.class;
    private static final Class<?> ARGUMENT = IllegalArgumentException.class;
    private static final int MIN = Integer.MIN_VALUE;
    private static final int MAX = Integer.MAX_VALUE;

    public static void main(String[] args) {
        newObject();
        put();
        paint();
        global();
        local();
        localRefuses();
        spreadForward();
        spreadBackward();
        spreadInThree();
        spreadRefuses();
        rest();
        ordered();
        join();
        joinRefuses();
        clean();
        cleanWhite();
        edges();
        invert();
        at();
        sum();
        sumRefuses();
        cell();
        told();
        clear();
        Check.end();
    }

    // Promise 1
    private static void newObject() {
        sides(4, 3, 4, 3);
        sides(1, 16, 1, 16);
        sides(0, 17, 1, 16);
        sides(17, 0, 16, 1);
        sides(-5, -1, 1, 1);
        sides(MIN, MAX, 1, 16);
        sides(MAX, MIN, 16, 1);
        LocalBounds picture = new LocalBounds(3, 2);
        Check.same("new: the result", Check.result(picture), ".../...");
        Check.same("new: the samples", picture.sum(0, 0, 3, 2, false), 0);
        Check.same("new: the rest", picture.rest(), 0);
    }

    private static void sides(int width, int height, int dueWidth, int dueHeight) {
        LocalBounds picture = new LocalBounds(width, height);
        String what = "new (" + width + ", " + height + ")";
        Check.same(what + " width", picture.told(0), dueWidth);
        Check.same(what + " height", picture.told(1), dueHeight);
    }

    // Promise 2
    private static void put() {
        LocalBounds picture = new LocalBounds(3, 2);
        Check.same("put first", picture.put(2, 1, 255), 0);
        Check.same("put again", picture.put(2, 1, 7), 255);
        Check.same("put the same", picture.put(2, 1, 7), 7);
        Check.same("put 0", picture.put(2, 1, 0), 7);
        picture.put(1, 0, 90);
        Check.same("put at its place", picture.sum(1, 0, 1, 1, false), 90);
        Check.same("put at no other", picture.sum(0, 0, 3, 2, false), 90);
        picture.ordered(1);
        picture.put(0, 0, 200);
        Check.same("put leaves the result", Check.result(picture), "###/###");
        int[][] outside = {{-1, 0}, {3, 0}, {0, -1}, {0, 2}, {MIN, 0}, {MAX, 0}, {0, MIN}, {0, MAX}};
        for (int[] spot : outside) {
            String what = "put at " + spot[0] + ", " + spot[1];
            Check.refuses(what, picture, INDEX, () -> picture.put(spot[0], spot[1], 5));
            Check.refuses(what + " of 256", picture, INDEX, () -> picture.put(spot[0], spot[1], 256));
        }
        for (int v : new int[] {-1, 256, MIN, MAX}) {
            Check.refuses("put of " + v, picture, ARGUMENT, () -> picture.put(1, 1, v));
        }
    }

    // Promise 3
    private static void paint() {
        LocalBounds picture = new LocalBounds(2, 2);
        Check.same("paint: others", picture.paint(250, 3), 3);
        samples(picture, 250, 253, 0, 3);
        Check.same("paint the same", picture.paint(250, 3), 0);
        Check.same("paint all", picture.paint(-1, 0), 4);
        samples(picture, 255, 255, 255, 255);
        picture.paint(1, -2);
        samples(picture, 1, 255, 253, 251);
        picture.paint(MAX, MAX);
        samples(picture, 255, 254, 253, 252);
        picture.paint(MIN, MIN + 1);
        samples(picture, 0, 1, 2, 3);
        picture.ordered(1);
        picture.paint(255, 0);
        Check.same("paint leaves the result", Check.result(picture), "##/##");
    }

    private static void samples(LocalBounds picture, int... due) {
        for (int i = 0; i < due.length; i++) {
            int x = i % picture.told(0);
            int y = i / picture.told(0);
            Check.same("sample " + i, picture.sum(x, y, 1, 1, false), due[i]);
        }
    }

    // Promise 4
    private static void global() {
        globalOf("two greys", Check.picture(2, 3, 10, 10, 3), 3, "#./.#");
        globalOf("equal worths", Check.picture(3, 0, 10, 20), 0, "#..");
        globalOf("the later is better", Check.picture(3, 0, 10, 21), 10, "##.");
        globalOf("the ends", Check.picture(2, 255, 0), 0, ".#");
        globalOf("beside the greatest", Check.picture(2, 255, 254), 254, ".#");
        globalOf("the greatest and beside it", Check.picture(2, 254, 255), 254, "#.");
        globalOf("all alike", Check.picture(2, 77, 77, 77, 77), 76, "../..");
        globalOf("all 0", Check.picture(2, 0, 0), -1, "..");
        globalOf("all 255", Check.picture(1, 255), 254, ".");
        // Bound 1 has 24^2 / 3, bound 7 has 24^2 / 4.
        globalOf("one against three", Check.picture(4, 12, 1, 8, 7), 1, ".#..");
        // Bound 0 has 23^2 / 3, which is more than 26^2 / 4 of bound 5.
        globalOf("a worth is divided", Check.picture(4, 0, 5, 9, 9), 0, "#...");
        // Both bounds have 9^2 / 2: the least is taken.
        globalOf("equal fractions", Check.picture(3, 6, 3, 0), 0, "..#");
        // Bound 0 has 13^2 / 4 and bound 2 has 16^2 / 6: both are 42 and some more, the second is greater.
        globalOf("near fractions", Check.picture(5, 0, 2, 3, 3, 5), 2, "##...");
        LocalBounds changed = Check.picture(2, 0, 255);
        changed.ordered(1);
        changed.paint(9, 0);
        Check.same("global made anew", changed.global(), 8);
        Check.same("global made anew", Check.result(changed), "..");
    }

    private static void globalOf(String what, LocalBounds picture, int bound, String result) {
        Check.same("global of " + what, picture.global(), bound);
        Check.same("global of " + what, Check.result(picture), result);
    }

    // Promise 5
    private static void local() {
        // The windows: 0 100 (D 100, spread 10000), all three (D 0), 100 200 (D -100).
        LocalBounds row = Check.picture(3, 0, 100, 200);
        localOf("no share", row, 3, 0, 2, "##.");
        localOf("a share", row, 3, 1, 1, "#..");
        localOf("a share just met", row, 3, 16, 1, "#..");
        localOf("a share not met", row, 3, 17, 0, "...");
        localOf("the greatest", row, 31, 64, 0, "...");
        localOf("windows of one", row, 1, 0, 2, "##.");
        // All three are in each window: n 3, S 300, spread 60000; D is 300, 0, -300.
        localOf("a window of all", row, 5, 19, 1, "#..");
        localOf("a window of all", row, 5, 20, 0, "...");
        localOf("a column", Check.picture(1, 0, 100, 200), 3, 16, 1, "#/./.");
        localOf("alike 127", Check.picture(2, 127, 127, 127, 127), 3, 64, 4, "##/##");
        localOf("alike 128", Check.picture(2, 128, 128, 128, 128), 3, 0, 0, "../..");
        localOf("alike here and there", Check.picture(5, 200, 200, 200, 10, 10), 3, 0, 2, "...##");
        // A window that went one too far would see the 0, and take the second 100 for white.
        localOf("the end of a row's window", Check.picture(4, 100, 100, 100, 0), 3, 0, 3, "##.#");
        localOf("the end of a column's window", Check.picture(1, 100, 100, 100, 0), 3, 0, 3, "#/#/./#");
        localOf("the start of a row's window", Check.picture(4, 0, 100, 100, 100), 3, 0, 3, "#.##");
        localOf("the start of a column's window", Check.picture(1, 0, 100, 100, 100), 3, 0, 3, "#/./#/#");
        // The sample at the upper left sees the 250 across its window's corner alone.
        localOf("corners of windows", Check.picture(2, 200, 200, 200, 250), 3, 0, 3, "##/#.");
        localOf("half beyond", Check.picture(3, 9, 0, 9, 0, 9, 0, 9, 0, 9), 3, 0, 4, ".#./#.#/.#.");
    }

    private static void localOf(String what, LocalBounds picture, int size, int share, int black, String result) {
        Check.same("local of " + what, picture.local(size, share), black);
        Check.same("local of " + what, Check.result(picture), result);
    }

    private static void localRefuses() {
        LocalBounds picture = Check.picture(3, 0, 100, 200);
        picture.local(3, 0);
        for (int size : new int[] {0, 2, 16, 30, 32, 33, -1, -3, MIN, MAX}) {
            Check.refuses("local size " + size, picture, ARGUMENT, () -> picture.local(size, 1));
        }
        for (int share : new int[] {-1, 65, MIN, MAX}) {
            Check.refuses("local share " + share, picture, ARGUMENT, () -> picture.local(3, share));
        }
    }

    // Promise 6, kind 0
    private static void spreadForward() {
        LocalBounds same = Check.picture(2, 100, 100, 100, 100);
        spreadOf("four alike", same, 0, 2, "#./.#", -110);
        spreadOf("halves towards 0", Check.picture(2, 150, 180), 0, 0, "..", -180);
        spreadOf("127", Check.picture(1, 127), 0, 1, "#", 127);
        spreadOf("128", Check.picture(1, 128), 0, 0, ".", -127);
        spreadOf("ahead", Check.picture(2, 100, 78), 0, 1, "#.", -77);
        spreadOf("ahead, not enough", Check.picture(2, 100, 77), 0, 2, "##", 177);
        // Of 101 the half is 50, and the rest, 51, goes below.
        spreadOf("below", Check.picture(1, 101, 77), 0, 1, "#/.", -77);
        spreadOf("below, not enough", Check.picture(1, 101, 76), 0, 2, "#/#", 177);
        spreadOf("forward in each row", Check.picture(2, 0, 0, 100, 100), 0, 3, "##/#.", -55);
        spreadOf("other kinds leave nothing", same, 0, 2, "#./.#", -110);
    }

    // Promise 6, kind 1
    private static void spreadBackward() {
        spreadOf("backward", Check.picture(2, 0, 0, 100, 100), 1, 3, "##/.#", -55);
        spreadOf("forward first", Check.picture(2, 100, 100), 1, 1, "#.", -55);
        spreadOf("forward again", Check.picture(2, 0, 0, 0, 0, 100, 100), 1, 5, "##/##/#.", -55);
        spreadOf("backward again", Check.picture(2, 0, 0, 0, 0, 0, 0, 100, 100), 1, 7, "##/##/##/.#", -55);
        spreadOf("four alike, turning", Check.picture(2, 100, 100, 100, 100), 1, 2, "#./.#", -110);
        spreadOf("the rest below", Check.picture(1, 101, 76), 1, 2, "#/#", 177);
    }

    // Promise 6, kind 2
    private static void spreadInThree() {
        spreadOf("below behind", Check.picture(2, 0, 200, 142, 0), 2, 3, "#./##", 87);
        spreadOf("quarters towards 0", Check.picture(1, 150, 154), 2, 0, "./.", -206);
        // Of 103 the half is 51, the quarter 25, and 27 is left for behind.
        spreadOf("a quarter below", Check.picture(1, 103, 103), 2, 1, "#/.", -49);
        spreadOf("a quarter below, not enough", Check.picture(1, 103, 102), 2, 2, "#/#", 205);
        spreadOf("no backward row", Check.picture(2, 0, 0, 100, 100), 2, 3, "##/#.", -55);
    }

    private static void spreadOf(
            String what, LocalBounds picture, int kind, int black, String result, long rest) {
        String call = "spread(" + kind + ") of " + what;
        Check.same(call, picture.spread(kind), black);
        Check.same(call, Check.result(picture), result);
        Check.same(call + ", rest", picture.rest(), rest);
    }

    private static void spreadRefuses() {
        LocalBounds picture = Check.picture(2, 100, 100, 100, 100);
        picture.spread(0);
        picture.invert();
        for (int kind : new int[] {-1, 3, MIN, MAX}) {
            Check.refuses("spread of kind " + kind, picture, ARGUMENT, () -> picture.spread(kind));
        }
    }

    // Promise 7
    private static void rest() {
        LocalBounds picture = Check.picture(2, 100, 100, 100, 100);
        Check.same("rest before", picture.rest(), 0);
        picture.global();
        picture.ordered(2);
        Check.same("rest before spread", picture.rest(), 0);
        picture.spread(0);
        Check.same("rest", picture.rest(), -110);
        picture.paint(0, 0);
        picture.global();
        picture.local(3, 3);
        picture.join(3, 9);
        picture.clean(9);
        picture.invert();
        Check.same("rest stays", picture.rest(), -110);
        picture.spread(1);
        Check.same("rest of the latest", picture.rest(), 0);
    }

    // Promise 8
    private static void ordered() {
        orderedOf(Check.picture(2, 127, 128), 1, 1, "#.");
        // With 2 each way a sample is black below 32, 160 / 224, 96.
        orderedOf(Check.picture(2, 31, 159, 223, 95), 2, 4, "##/##");
        orderedOf(Check.picture(2, 32, 160, 224, 96), 2, 0, "../..");
        orderedOf(Check.picture(3, 32, 32, 32, 32, 32, 32, 32, 32, 32), 2, 5, ".#./###/.#.");
        // With 4 the cells of the first row are 0, 8, 2, 10: below 8, 136, 40, 168.
        orderedOf(Check.picture(5, 7, 135, 39, 167, 7), 4, 5, "#####");
        orderedOf(Check.picture(5, 8, 136, 40, 168, 8), 4, 0, ".....");
        // With 8 the cells of the first column are 0, 48, 12, 60: below 2, 194, 50, 242.
        orderedOf(Check.picture(1, 1, 193, 49, 241), 8, 4, "#/#/#/#");
        orderedOf(Check.picture(1, 2, 194, 50, 242), 8, 0, "./././.");
        LocalBounds picture = Check.picture(2, 31, 255);
        picture.ordered(2);
        for (int cells : new int[] {0, 3, 5, 6, 7, 9, 16, -1, -2, -8, MIN, MAX}) {
            Check.refuses("ordered by " + cells, picture, ARGUMENT, () -> picture.ordered(cells));
        }
    }

    private static void orderedOf(LocalBounds picture, int cells, int black, String result) {
        Check.same("ordered(" + cells + ")", picture.ordered(cells), black);
        Check.same("ordered(" + cells + ")", Check.result(picture), result);
    }

    // Promise 9
    private static void join() {
        LocalBounds corners = Check.picture(4,
            0, 200, 200, 50,
            200, 50, 200, 200,
            200, 200, 50, 200);
        joinOf("corners", corners, 0, 50, 3, "#.../.#../..#.");
        joinOf("the high one is not met", corners, 0, 49, 1, "#.../..../....");
        joinOf("all low", corners, 50, 50, 4, "#..#/.#../..#.");
        joinOf("all", corners, 0, 255, 12, "####/####/####");
        joinOf("none to begin with", corners, -1, 255, 0, "..../..../....");
        joinOf("nothing at all", corners, -1, -1, 0, "..../..../....");
        joinOf("the greatest low", corners, 255, 255, 12, "####/####/####");
        LocalBounds back = Check.picture(4,
            60, 200, 60, 200,
            200, 60, 200, 200,
            200, 200, 61, 200,
            60, 200, 200, 10);
        joinOf("back up", back, 10, 61, 5, "#.#./.#../..#./...#");
        joinOf("back up, stopped", back, 10, 60, 1, "..../..../..../...#");
        // A row's end does not hang together with the next row's start.
        joinOf("rows end", Check.picture(3, 200, 200, 0, 200, 200, 200, 50, 200, 200), 0, 50, 1, "..#/.../...");
        joinOf("rows end", Check.picture(3, 200, 200, 0, 50, 200, 200), 0, 50, 1, "..#/...");
    }

    private static void joinOf(String what, LocalBounds picture, int low, int high, int black, String result) {
        Check.same("join of " + what, picture.join(low, high), black);
        Check.same("join of " + what, Check.result(picture), result);
    }

    private static void joinRefuses() {
        LocalBounds picture = Check.picture(2, 0, 50);
        picture.join(0, 0);
        int[][] bounds = {
            {9, 8}, {0, -1}, {0, 256}, {-2, 0}, {-2, -2}, {256, 256}, {MIN, MAX}, {MAX, MIN}, {MIN, 0}, {0, MAX}};
        for (int[] pair : bounds) {
            String what = "join " + pair[0] + ", " + pair[1];
            Check.refuses(what, picture, ARGUMENT, () -> picture.join(pair[0], pair[1]));
        }
    }

    // Promise 10
    private static void clean() {
        cleanOf("#../...", 0, 0, "#../...");
        cleanOf("#../...", 1, 1, ".../...");
        cleanOf("##./...", 1, 0, "##./...");
        cleanOf("##./...", 2, 2, ".../...");
        cleanOf("#../.#.", 1, 2, ".../...");
        cleanOf("##./.#.", 2, 0, "##./.#.");
        cleanOf("##./.#.", 3, 3, ".../...");
        cleanOf("..#/#..", 1, 2, ".../...");
        cleanOf("###/###", 256, 6, ".../...");
        cleanOf(".../...", 256, 0, ".../...");
        LocalBounds picture = Check.withResult("###/#.#/###");
        for (int most : new int[] {-1, 257, MIN, MAX}) {
            Check.refuses("clean of " + most, picture, ARGUMENT, () -> picture.clean(most));
        }
    }

    private static void cleanWhite() {
        cleanOf("###/#.#/###", 0, 0, "###/#.#/###");
        cleanOf("###/#.#/###", 1, 1, "###/###/###");
        cleanOf("####/#..#/####", 1, 0, "####/#..#/####");
        cleanOf("####/#..#/####", 2, 2, "####/####/####");
        cleanOf("####/#.##/##.#/####", 1, 2, "####/####/####/####");
        cleanOf("#.##/####/####", 3, 0, "#.##/####/####");
        cleanOf("####/.###/####", 3, 0, "####/.###/####");
        cleanOf("####/###./####", 3, 0, "####/###./####");
        cleanOf("####/####/##.#", 3, 0, "####/####/##.#");
        cleanOf(".##/###/###", 3, 0, ".##/###/###");
        cleanOf("####/#..#/##.#", 5, 0, "####/#..#/##.#");
        // The speck in the hole is turned twice: the hole has nine with it.
        String ring = "#####/#...#/#.#.#/#...#/#####";
        cleanOf(ring, 1, 1, "#####/#...#/#...#/#...#/#####");
        cleanOf(ring, 8, 1, "#####/#...#/#...#/#...#/#####");
        cleanOf(ring, 9, 10, "#####/#####/#####/#####/#####");
        cleanOf(ring, 15, 10, "#####/#####/#####/#####/#####");
        cleanOf(ring, 16, 17, "...../...../...../...../.....");
    }

    private static void cleanOf(String before, int most, int turned, String after) {
        LocalBounds picture = Check.withResult(before);
        Check.same("clean(" + most + ") of " + before, picture.clean(most), turned);
        Check.same("clean(" + most + ") of " + before, Check.result(picture), after);
    }

    // Promise 11
    private static void edges() {
        edgesOf("#", 1, "#");
        edgesOf(".", 0, ".");
        edgesOf("###/###/###", 8, "###/#.#/###");
        edgesOf("#####/#####/#####/#####/#####", 16, "#####/#...#/#...#/#...#/#####");
        // The centre has white ones at its corners alone.
        edgesOf(".#./###/.#.", 4, ".#./#.#/.#.");
        edgesOf("#####/#####/##.##/#####/#####", 20, "#####/#.#.#/##.##/#.#.#/#####");
        edgesOf("..../.##./.##./....", 4, "..../.##./.##./....");
        LocalBounds picture = Check.withResult("###/###/###");
        picture.edges();
        Check.same("edges of edges", picture.edges(), 8);
    }

    private static void edgesOf(String before, int black, String after) {
        LocalBounds picture = Check.withResult(before);
        Check.same("edges of " + before, picture.edges(), black);
        Check.same("edges of " + before, Check.result(picture), after);
    }

    // Promise 12
    private static void invert() {
        LocalBounds picture = Check.withResult("##./...");
        Check.same("invert", picture.invert(), 4);
        Check.same("invert", Check.result(picture), "..#/###");
        Check.same("invert again", picture.invert(), 2);
        Check.same("invert again", Check.result(picture), "##./...");
        Check.same("invert leaves the samples", picture.sum(0, 0, 3, 2, false), 4 * 255);
        Check.same("invert at first", new LocalBounds(16, 16).invert(), 256);
    }

    // Promise 13
    private static void at() {
        LocalBounds picture = Check.withResult("#../..#");
        Check.same("at black", picture.at(2, 1) ? 1 : 0, 1);
        Check.same("at white", picture.at(1, 0) ? 1 : 0, 0);
        int[][] outside = {{-1, 0}, {3, 0}, {0, -1}, {0, 2}, {3, 2}, {MIN, 0}, {MAX, 0}, {0, MIN}, {0, MAX}};
        for (int[] spot : outside) {
            String what = "at " + spot[0] + ", " + spot[1];
            Check.refuses(what, picture, INDEX, () -> picture.at(spot[0], spot[1]));
        }
    }

    // Promise 14
    private static void sum() {
        LocalBounds picture = Check.picture(3, 1, 2, 3, 40, 50, 255);
        Check.same("sum of all", picture.sum(0, 0, 3, 2, false), 351);
        Check.same("squares of all", picture.sum(0, 0, 3, 2, true), 14 + 1600 + 2500 + 65025);
        Check.same("sum of one", picture.sum(2, 1, 1, 1, false), 255);
        Check.same("square of one", picture.sum(2, 1, 1, 1, true), 65025);
        Check.same("sum of a part", picture.sum(1, 0, 2, 2, false), 310);
        Check.same("sum of a row", picture.sum(0, 1, 2, 1, false), 90);
        Check.same("sum of a column", picture.sum(0, 0, 1, 2, true), 1601);
        Check.same("sum of nothing", picture.sum(3, 2, 0, 0, false), 0);
        Check.same("sum of no width", picture.sum(3, 0, 0, 2, false), 0);
        Check.same("sum of no height", picture.sum(0, 2, 3, 0, true), 0);
        Check.same("sum of nothing inside", picture.sum(1, 1, 0, 0, true), 0);
        picture.put(2, 1, 5);
        Check.same("sum anew", picture.sum(0, 0, 3, 2, false), 101);
        LocalBounds light = new LocalBounds(16, 16);
        light.paint(255, 0);
        Check.same("the greatest sum", light.sum(0, 0, 16, 16, false), 65280);
        Check.same("the greatest squares", light.sum(0, 0, 16, 16, true), 16646400);
    }

    private static void sumRefuses() {
        LocalBounds picture = Check.picture(3, 1, 2, 3, 40, 50, 255);
        picture.spread(0);
        int[][] beyond = {
            {1, 0, 3, 1}, {0, 1, 1, 2}, {3, 0, 1, 1}, {0, 2, 1, 1}, {4, 0, 0, 0}, {0, 3, 0, 0},
            {-1, 0, 1, 1}, {0, -1, 1, 1}, {-1, 0, 0, 0}, {0, -1, 0, 0}, {-1, 0, 2, 1}, {0, -1, 1, 2},
            {0, 0, -1, 1}, {0, 0, 1, -1}, {2, 0, -1, 1}, {0, 1, 1, -1}, {0, 0, 4, 2}, {0, 0, 3, 3},
            {1, 0, MAX, 1}, {0, 1, 1, MAX}, {MAX, 0, MAX, 1}, {0, MAX, 1, MAX}, {MIN, 0, MIN, 1}, {0, MIN, 1, MIN},
            {MAX, MAX, 0, 0}, {MIN, MIN, 0, 0}, {0, 0, MIN, 0}, {0, 0, 0, MIN}, {1, 1, MIN, MIN}, {MAX, 0, 1, 1}};
        for (int[] part : beyond) {
            for (boolean squares : new boolean[] {false, true}) {
                String what = "sum " + part[0] + ", " + part[1] + ", " + part[2] + ", " + part[3];
                Check.refuses(what, picture, ARGUMENT,
                    () -> picture.sum(part[0], part[1], part[2], part[3], squares));
            }
        }
    }

    // Promise 15
    private static void cell() {
        LocalBounds picture = new LocalBounds(1, 1);
        int[][] due = {{0, 8, 2, 10}, {12, 4, 14, 6}, {3, 11, 1, 9}, {15, 7, 13, 5}};
        for (int y = 0; y < 9; y++) {
            for (int x = 0; x < 9; x++) {
                Check.same("cell(4, " + x + ", " + y + ")", picture.cell(4, x, y), due[y % 4][x % 4]);
            }
        }
        Check.same("cell(1)", picture.cell(1, 5, 7), 0);
        Check.same("cell(2) upper left", picture.cell(2, 2, 4), 0);
        Check.same("cell(2) upper right", picture.cell(2, 3, 4), 2);
        Check.same("cell(2) lower left", picture.cell(2, 2, 5), 3);
        Check.same("cell(2) lower right", picture.cell(2, 3, 5), 1);
        Check.same("cell(8)", picture.cell(8, 8, 11), 60);
        Check.same("cell(8) far away", picture.cell(8, MAX, MAX), 21);
        Check.same("cell(8) far away", picture.cell(8, MAX, 0), 42);
        for (int cells : new int[] {0, 3, 5, 6, 7, 9, 16, -1, -4, MIN, MAX}) {
            Check.refuses("cell of " + cells, picture, ARGUMENT, () -> picture.cell(cells, 0, 0));
        }
        for (int cells : new int[] {1, 2, 4, 8}) {
            Check.refuses("cell x -1", picture, ARGUMENT, () -> picture.cell(cells, -1, 0));
            Check.refuses("cell y -1", picture, ARGUMENT, () -> picture.cell(cells, 0, -1));
            Check.refuses("cell x least", picture, ARGUMENT, () -> picture.cell(cells, MIN, 0));
            Check.refuses("cell y least", picture, ARGUMENT, () -> picture.cell(cells, 0, MIN));
        }
    }

    // Promise 16
    private static void told() {
        LocalBounds picture = Check.withResult("#.#/.#./##.");
        Check.same("width", picture.told(0), 3);
        Check.same("height", picture.told(1), 3);
        Check.same("black ones", picture.told(2), 5);
        Check.same("parts", picture.told(3), 3);
        Check.same("different samples", picture.told(4), 2);
        picture.invert();
        Check.same("black ones, turned", picture.told(2), 4);
        Check.same("parts, turned", picture.told(3), 3);
        picture.paint(0, 64);
        Check.same("different samples", picture.told(4), 4);
        Check.same("different samples, one alone", Check.picture(3, 1, 2, 2).told(4), 2);
        Check.same("one of the same", new LocalBounds(9, 9).told(4), 1);
        // A row's end does not hang together with the next row's start.
        Check.same("rows end", Check.withResult("..#/#..").told(3), 2);
        Check.same("one part around", Check.withResult("#.#/###/#.#").told(3), 1);
        Check.same("no part", new LocalBounds(3, 3).told(3), 0);
        Check.same("NONE", LocalBounds.NONE, -1);
        for (int what : new int[] {-1, 5, 6, MIN, MAX}) {
            Check.same("told(" + what + ")", picture.told(what), LocalBounds.NONE);
        }
    }

    // Promise 17
    private static void clear() {
        LocalBounds picture = Check.picture(2, 100, 100, 100, 100);
        picture.spread(0);
        picture.clear();
        Check.same("clear: the result", Check.result(picture), "../..");
        Check.same("clear: the samples", picture.sum(0, 0, 2, 2, false), 0);
        Check.same("clear: the rest", picture.rest(), 0);
        Check.same("clear: the width", picture.told(0), 2);
        Check.same("clear: the height", picture.told(1), 2);
        Check.same("clear: as new", Check.state(picture), Check.state(new LocalBounds(2, 2)));
        Check.same("clear: global", picture.global(), -1);
        Check.same("clear: put", picture.put(1, 1, 3), 0);
    }
}
