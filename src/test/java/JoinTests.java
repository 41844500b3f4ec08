/**
 * What "Terms" says of TWO BOUNDS: each sentence that names a boundary stands over its test, which holds it on
 * both sides; what is due was worked out by hand.
 */
public final class JoinTests {
    public static void main(String[] args) {
        atMostLow();
        atMostHigh();
        noneBegins();
        boundsThatAreAlike();
        theFarthestBounds();
        bySidesAndCorners();
        notFartherThanOne();
        notFromRowToRow();
        throughSamplesOfAtMostHigh();
        aLongWay();
        Check.end();
    }

    private static void joinOf(String what, LocalBounds picture, int low, int high, String result) {
        String call = "join(" + low + ", " + high + ") of " + what;
        int black = (int) result.chars().filter(sign -> sign == '#').count();
        Check.same(call, picture.join(low, high), black);
        Check.same(call, Check.result(picture), result);
    }

    // "samples of at most low are black"
    private static void atMostLow() {
        LocalBounds picture = Check.picture(5, 9, 200, 10, 200, 11);
        joinOf("three", picture, 8, 8, ".....");
        joinOf("three", picture, 9, 9, "#....");
        joinOf("three", picture, 10, 10, "#.#..");
        joinOf("three", picture, 11, 11, "#.#.#");
    }

    // "and those of at most high that hang together with such"
    private static void atMostHigh() {
        LocalBounds picture = Check.picture(3, 10, 50, 51);
        joinOf("a step each", picture, 10, 49, "#..");
        joinOf("a step each", picture, 10, 50, "##.");
        joinOf("a step each", picture, 10, 51, "###");
        // Of at most high, but with none of at most low.
        joinOf("a step each", picture, 9, 51, "...");
    }

    // Low -1 has no sample at most it, so that none begins, whatever high is; 0 has those of 0.
    private static void noneBegins() {
        LocalBounds picture = Check.picture(3, 0, 1, 2);
        joinOf("none", picture, -1, -1, "...");
        joinOf("none", picture, -1, 0, "...");
        joinOf("none", picture, -1, 255, "...");
        joinOf("none", picture, 0, 0, "#..");
        joinOf("none", picture, 0, 255, "###");
        LocalBounds lighter = Check.picture(3, 1, 2, 3);
        joinOf("none of 0", lighter, 0, 255, "...");
        joinOf("one of 1", lighter, 1, 255, "###");
    }

    private static void boundsThatAreAlike() {
        LocalBounds picture = Check.picture(2, 100, 101, 102, 103);
        for (int bound = 99; bound <= 103; bound++) {
            String[] due = {"../..", "#./..", "##/..", "##/#.", "##/##"};
            joinOf("four", picture, bound, bound, due[bound - 99]);
        }
    }

    private static void theFarthestBounds() {
        LocalBounds picture = Check.picture(2, 255, 254, 255, 255);
        joinOf("light ones", picture, 253, 255, "../..");
        joinOf("light ones", picture, 254, 254, ".#/..");
        joinOf("light ones", picture, 254, 255, "##/##");
        joinOf("light ones", picture, 255, 255, "##/##");
        LocalBounds all = new LocalBounds(16, 16);
        Check.same("join(-1, 255) of 0", all.join(-1, 255), 0);
        Check.same("join(0, 0) of 0", all.join(0, 0), 256);
    }

    // "by sides and corners": each of the eight round the middle hangs together with it, though with no other one.
    private static void bySidesAndCorners() {
        for (int y = 0; y < 3; y++) {
            for (int x = 0; x < 3; x++) {
                LocalBounds picture = alike(3, 3, 200);
                picture.put(1, 1, 10);
                picture.put(x, y, x == 1 && y == 1 ? 10 : 50);
                int due = x == 1 && y == 1 ? 1 : 2;
                Check.same("join beside, " + x + ", " + y, picture.join(10, 50), due);
                Check.same("join beside, " + x + ", " + y, picture.at(x, y), true);
                Check.same("join beside, below high", picture.join(10, 49), 1);
            }
        }
    }

    // .. and what lies two away does not, wherever it lies.
    private static void notFartherThanOne() {
        for (int y = 0; y < 5; y++) {
            for (int x = 0; x < 5; x++) {
                LocalBounds picture = alike(5, 5, 200);
                picture.put(2, 2, 10);
                picture.put(x, y, x == 2 && y == 2 ? 10 : 50);
                boolean near = Math.abs(x - 2) <= 1 && Math.abs(y - 2) <= 1;
                picture.join(10, 50);
                Check.same("join two away, " + x + ", " + y, picture.at(x, y), near);
            }
        }
    }

    // The end of a row hangs together with no start of one, neither below nor above.
    private static void notFromRowToRow() {
        joinOf("a row's end", Check.picture(3, 200, 200, 10, 50, 200, 200), 10, 50, "..#/...");
        joinOf("a row's start", Check.picture(3, 200, 200, 50, 10, 200, 200), 10, 50, ".../#..");
        joinOf("a row's end, two down", Check.picture(3, 200, 200, 10, 200, 200, 200, 50, 200, 200), 10, 50,
            "..#/.../...");
        joinOf("a row's start in its own row", Check.picture(3, 50, 200, 10), 10, 50, "..#");
        joinOf("a column's end", Check.picture(1, 50, 200, 10), 10, 50, "././#");
    }

    // "by samples of at most high": one above it parts them, unless there is another way round.
    private static void throughSamplesOfAtMostHigh() {
        joinOf("a way", Check.picture(5, 10, 50, 50, 50, 50), 10, 50, "#####");
        joinOf("a way parted", Check.picture(5, 10, 50, 51, 50, 50), 10, 50, "##...");
        joinOf("a way round", Check.picture(5, 10, 50, 51, 50, 50, 51, 51, 50, 51, 51), 10, 50, "##.##/..#..");
        joinOf("a wall", Check.picture(3, 10, 10, 10, 51, 51, 51, 50, 50, 50), 10, 50, "###/.../...");
        joinOf("a wall with a hole", Check.picture(3, 10, 10, 10, 51, 51, 50, 50, 50, 50), 10, 50, "###/..#/###");
        // What is at most low leads on too: 50 and 50 hang together by the 10 between them.
        joinOf("a way by low ones", Check.picture(3, 50, 10, 50), 10, 50, "###");
    }

    // A way through the greatest picture, there and back, from its end: each sample of it comes in once.
    private static void aLongWay() {
        LocalBounds picture = alike(16, 16, 200);
        int way = 0;
        for (int y = 0; y < 16; y++) {
            for (int x = 0; x < 16; x++) {
                boolean turn = y % 4 == 1 ? x == 15 : x == 0;
                if (y % 2 == 0 || turn) {
                    picture.put(x, y, 50);
                    way++;
                }
            }
        }
        picture.put(0, 15, 10);
        Check.same("a long way", picture.join(10, 50), way);
        Check.same("a long way: its farthest", picture.at(0, 0), true);
        Check.same("a long way: beside it", picture.at(7, 1), false);
        picture.put(0, 7, 51);
        picture.join(10, 50);
        Check.same("a long way, parted: before", picture.at(0, 8), true);
        Check.same("a long way, parted: behind", picture.at(1, 6), false);
        Check.same("all low", alike(16, 16, 10).join(10, 50), 256);
    }

    private static LocalBounds alike(int width, int height, int v) {
        LocalBounds picture = new LocalBounds(width, height);
        picture.paint(v, 0);
        return picture;
    }
}
