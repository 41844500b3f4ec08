/**
 * What "Terms" says of LOCAL: each sentence that names a boundary stands over its test, which holds it on
 * both sides; what is due was worked out by hand.
 */
public final class LocalTests {
    public static void main(String[] args) {
        theWindowEndsAtItsReach();
        theWidestWindows();
        theWindowIsInThePicture();
        noSpread();
        aSpreadOfOne();
        darkerThanTheMean();
        theShareIsMet();
        theWholePicture();
        Check.end();
    }

    // "all samples not farther than (size - 1) / 2 from it across, nor down": in a picture of 200 with one 255
    // those are black that see the 255, and it itself is white, as are those whose window is of 200 alone.
    private static void theWindowEndsAtItsReach() {
        int[][] spots = {{0, 0}, {15, 15}, {0, 15}, {15, 0}, {7, 8}, {1, 14}, {8, 0}, {0, 7}};
        for (int[] spot : spots) {
            for (int size = 1; size <= 31; size += 2) {
                LocalBounds picture = new LocalBounds(16, 16);
                picture.paint(200, 0);
                picture.put(spot[0], spot[1], 255);
                String what = "local(" + size + ", 0) round " + spot[0] + ", " + spot[1];
                Check.same(what, picture.local(size, 0), seen(spot[0], size) * seen(spot[1], size) - 1);
                squareIsBlack(what, picture, spot[0], spot[1], (size - 1) / 2);
            }
        }
    }

    /** How many of 16 places are not farther than (size - 1) / 2. */
    private static int seen(int place, int size) {
        int reach = (size - 1) / 2;
        return Math.min(15, place + reach) - Math.max(0, place - reach) + 1;
    }

    private static void squareIsBlack(String what, LocalBounds picture, int x, int y, int reach) {
        for (int j = 0; j < 16; j++) {
            for (int i = 0; i < 16; i++) {
                boolean near = Math.abs(i - x) <= reach && Math.abs(j - y) <= reach;
                boolean itself = i == x && j == y;
                Check.same(what + ": " + i + ", " + j, picture.at(i, j), near && !itself);
            }
        }
    }

    // From one side of 16 samples to the other are 15: size 31 goes so far, 29 does not.
    private static void theWidestWindows() {
        for (boolean across : new boolean[] {true, false}) {
            LocalBounds picture = across ? new LocalBounds(16, 1) : new LocalBounds(1, 16);
            picture.paint(200, 0);
            picture.put(0, 0, 255);
            int last = across ? 15 : 0;
            int lowest = across ? 0 : 15;
            picture.local(31, 0);
            Check.same("local(31): the farthest", picture.at(last, lowest), true);
            picture.local(29, 0);
            Check.same("local(29): the farthest", picture.at(last, lowest), false);
            Check.same("local(29): black ones", picture.told(2), 14);
        }
    }

    // "in the picture: n of them": round the 255 in the middle of nine are n = 4 at a corner, n = 6 at a side,
    // each with D = 55 and SPREAD = (n - 1) 55^2: black if 256 is not below k^2 (n - 1).
    private static void theWindowIsInThePicture() {
        LocalBounds picture = Check.picture(3, 200, 200, 200, 200, 255, 200, 200, 200, 200);
        localOf("nine", picture, 3, 7, "###/#.#/###");
        localOf("nine", picture, 3, 8, "#.#/.../#.#");
        localOf("nine", picture, 3, 9, "#.#/.../#.#");
        localOf("nine", picture, 3, 10, ".../.../...");
        // A whole window of nine, round a 200: 256 is not below 25 * 8, but is below 36 * 8.
        LocalBounds wide = Check.picture(3, 200, 200, 255, 200, 200, 200, 200, 200, 200);
        wide.local(3, 5);
        Check.same("a whole window, share 5", wide.at(1, 1), true);
        wide.local(3, 6);
        Check.same("a whole window, share 6", wide.at(1, 1), false);
    }

    // "If that is 0, it is black if it is below 128", whatever the share.
    private static void noSpread() {
        for (int share : new int[] {0, 1, 64}) {
            for (int v : new int[] {0, 1, 127, 128, 129, 255}) {
                for (int size : new int[] {1, 3, 31}) {
                    LocalBounds picture = new LocalBounds(16, 16);
                    picture.paint(v, 0);
                    int due = v < 128 ? 256 : 0;
                    Check.same("local(" + size + ", " + share + ") of " + v, picture.local(size, share), due);
                }
            }
        }
        // A window of one sample has no spread, whatever lies beside it.
        localOf("windows of one", Check.picture(4, 127, 128, 0, 255), 1, 0, "#.#.");
        localOf("windows of one", Check.picture(4, 127, 128, 0, 255), 1, 64, "#.#.");
    }

    // .. and if it is not 0, that bound is not asked: 255 beside 254 is 1 from the mean, as 0 beside 1 is.
    private static void aSpreadOfOne() {
        localOf("254 and 255", Check.picture(2, 254, 255), 3, 16, "#.");
        localOf("254 and 255", Check.picture(2, 254, 255), 3, 17, "..");
        localOf("0 and 1", Check.picture(2, 1, 0), 3, 16, ".#");
        localOf("0 and 1", Check.picture(2, 1, 0), 3, 17, "..");
        localOf("127 and 128", Check.picture(2, 127, 128), 3, 0, "#.");
    }

    // "black if D is not below 0": D is 0 for the middle one, and 1 or -1 if the last is one step off.
    private static void darkerThanTheMean() {
        localOf("D = 0", Check.picture(3, 90, 100, 110), 5, 0, "##.");
        localOf("D = 1", Check.picture(3, 90, 100, 111), 5, 0, "##.");
        localOf("D = -1", Check.picture(3, 90, 100, 109), 5, 0, "#..");
        // With a share D = 0 is not enough, as SPREAD is above 0.
        localOf("D = 0, a share", Check.picture(3, 90, 100, 110), 5, 1, "#..");
        // D^2 of the light ones is as great as that of the dark ones: they are white still.
        localOf("D = -10, a share", Check.picture(2, 100, 110), 3, 1, "#.");
    }

    // "and 256 D^2 is not below k^2 SPREAD": five in a row have SPREAD = 4 * 55^2, which k = 8 just meets.
    private static void theShareIsMet() {
        LocalBounds five = Check.picture(5, 200, 200, 255, 200, 200);
        localOf("just met", five, 9, 8, "##.##");
        localOf("just not met", five, 9, 9, ".....");
        // Two samples have SPREAD = D^2, which k = 16 just meets.
        localOf("two, just met", Check.picture(1, 0, 255), 3, 16, "#/.");
        localOf("two, just not met", Check.picture(1, 0, 255), 3, 17, "./.");
        // The greatest share: D = 0 and 255, SPREAD = 255^2: 256 is below 64^2.
        localOf("the greatest share", Check.picture(2, 0, 255), 3, 64, "..");
        // Next to it: of 16 samples one is 0: D = 15 * 255, SPREAD = 15 * 255^2: 256 * 15 is 3840, 62^2 is 3844.
        LocalBounds one = new LocalBounds(16, 1);
        one.paint(255, 0);
        one.put(3, 0, 0);
        localOf("a great share, met", one, 31, 61, "...#............");
        localOf("a great share, not met", one, 31, 62, "................");
    }

    // The greatest numbers that can come: D = 32640 and SPREAD = D^2, which k = 16 just meets.
    private static void theWholePicture() {
        LocalBounds picture = new LocalBounds(16, 16);
        for (int i = 0; i < 256; i++) {
            picture.put(i % 16, i / 16, i < 128 ? 0 : 255);
        }
        Check.same("local of halves, share 0", picture.local(31, 0), 128);
        Check.same("local of halves, share 16", picture.local(31, 16), 128);
        Check.same("local of halves, the dark half", picture.at(15, 7), true);
        Check.same("local of halves, the light half", picture.at(0, 8), false);
        Check.same("local of halves, share 17", picture.local(31, 17), 0);
        Check.same("local of halves, share 64", picture.local(31, 64), 0);
        // One 0 among 255: D = 255 * 255, SPREAD = 255 * 255^2: 256 * 255 is above 64^2.
        LocalBounds one = new LocalBounds(16, 16);
        one.paint(255, 0);
        one.put(9, 2, 0);
        Check.same("local of one dark, share 64", one.local(31, 64), 1);
        Check.same("local of one dark, share 64", one.at(9, 2), true);
    }

    private static void localOf(String what, LocalBounds picture, int size, int share, String result) {
        String call = "local(" + size + ", " + share + ") of " + what;
        int black = (int) result.chars().filter(sign -> sign == '#').count();
        Check.same(call, picture.local(size, share), black);
        Check.same(call, Check.result(picture), result);
    }
}
