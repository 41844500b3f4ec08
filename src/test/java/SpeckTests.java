/**
 * What "Terms" says of SPECKS: each sentence that names a boundary stands over its test, which holds it on both
 * sides; what is due was worked out by hand.
 */
public final class SpeckTests {
    public static void main(String[] args) {
        asManyAsToldAtMost();
        noneAtMost();
        blackBySides();
        eachPartForItself();
        whiteAsManyAsToldAtMost();
        whiteBySides();
        whiteAtEachPlace();
        whiteThatComesToTheEdge();
        blackFirst();
        turnedTwice();
        theGreatestPicture();
        theGreatestHole();
        theSamplesStay();
        Check.end();
    }

    private static void cleanOf(String before, int most, int turned, String after) {
        LocalBounds picture = Check.withResult(before);
        Check.same("clean(" + most + ") of " + before, picture.clean(most), turned);
        Check.same("clean(" + most + ") of " + before, Check.result(picture), after);
    }

    // "black samples .. that hang together by sides, as many as told at most, become white"
    private static void asManyAsToldAtMost() {
        String[] parts = {"#../.../...", "##./.../...", "##./#../...", "##./##./...", "###/##./..."};
        for (int size = 1; size <= 5; size++) {
            cleanOf(parts[size - 1], size - 1, 0, parts[size - 1]);
            cleanOf(parts[size - 1], size, size, ".../.../...");
            cleanOf(parts[size - 1], size + 1, size, ".../.../...");
            cleanOf(parts[size - 1], 256, size, ".../.../...");
        }
    }

    // With 0 told no part is small enough.
    private static void noneAtMost() {
        cleanOf("#", 0, 0, "#");
        cleanOf(".", 0, 0, ".");
        cleanOf("#", 1, 1, ".");
        cleanOf(".", 1, 0, ".");
        cleanOf("###/#.#/###", 0, 0, "###/#.#/###");
        cleanOf(".../.#./...", 0, 0, ".../.#./...");
    }

    // "by sides": corners do not hold parts together, nor does a row's end the next one's start.
    private static void blackBySides() {
        cleanOf("#../.#./..#", 1, 3, ".../.../...");
        cleanOf("..#/.#./#..", 1, 3, ".../.../...");
        cleanOf("#../##./...", 2, 0, "#../##./...");
        cleanOf("..#/#../...", 1, 2, ".../.../...");
        cleanOf("..#/..#/...", 1, 0, "..#/..#/...");
    }

    private static void eachPartForItself() {
        cleanOf("#.##.###", 1, 1, "..##.###");
        cleanOf("#.##.###", 2, 3, ".....###");
        cleanOf("#.##.###", 3, 6, "........");
        cleanOf("###.##.#", 2, 3, "###.....");
    }

    // "then white ones likewise": as many as told at most.
    private static void whiteAsManyAsToldAtMost() {
        String full = "#####/#####/#####/#####/#####";
        String[] holes = {
            "#####/#.###/#####/#####/#####", "#####/#..##/#####/#####/#####", "#####/#..##/#.###/#####/#####",
            "#####/#..##/#..##/#####/#####"};
        for (int size = 1; size <= 4; size++) {
            cleanOf(holes[size - 1], size - 1, 0, holes[size - 1]);
            cleanOf(holes[size - 1], size, size, full);
            cleanOf(holes[size - 1], size + 1, size, full);
        }
    }

    // .. and by sides: two holes that touch by a corner are two.
    private static void whiteBySides() {
        cleanOf("#####/#.###/##.##/###.#/#####", 1, 3, "#####/#####/#####/#####/#####");
        cleanOf("#####/#.###/#..##/#####/#####", 2, 0, "#####/#.###/#..##/#####/#####");
        // A hole that touches a white one of the picture's edge by a corner does not come to the edge.
        cleanOf("#.###/##.##/#####/#####", 1, 1, "#.###/#####/#####/#####");
        cleanOf("#.###/#.###/#####/#####", 2, 0, "#.###/#.###/#####/#####");
    }

    // "that do not come to the picture's edge": a white one at each place of a black picture.
    private static void whiteAtEachPlace() {
        for (int y = 0; y < 16; y++) {
            for (int x = 0; x < 16; x++) {
                LocalBounds picture = black(16, 16);
                whiten(picture, x, y);
                boolean inside = x > 0 && y > 0 && x < 15 && y < 15;
                String what = "clean(1) of one white, " + x + ", " + y;
                Check.same(what, picture.clean(1), inside ? 1 : 0);
                Check.same(what, picture.at(x, y), inside);
                Check.same(what + ": black ones", picture.told(2), inside ? 256 : 255);
            }
        }
    }

    // .. also with but one of many, and in pictures that are all edge.
    private static void whiteThatComesToTheEdge() {
        cleanOf("####/#..#/#..#/####", 4, 4, "####/####/####/####");
        cleanOf("#.##/#..#/#..#/####", 5, 0, "#.##/#..#/#..#/####");
        cleanOf("####/...#/#..#/####", 5, 0, "####/...#/#..#/####");
        cleanOf("####/#..#/#.../####", 5, 0, "####/#..#/#.../####");
        cleanOf("####/#..#/#..#/##.#", 5, 0, "####/#..#/#..#/##.#");
        cleanOf("##.##", 1, 0, "##.##");
        cleanOf("##/##/.#/##", 1, 0, "##/##/.#/##");
        cleanOf("#/#/./#/#", 1, 0, "#/#/./#/#");
    }

    // "then": white ones are counted as they are when the black specks have left.
    private static void blackFirst() {
        String ring = "#####/#...#/#.#.#/#...#/#####";
        cleanOf(ring, 0, 0, ring);
        cleanOf(ring, 8, 1, "#####/#...#/#...#/#...#/#####");
        cleanOf(ring, 9, 10, "#####/#####/#####/#####/#####");
        // The speck below the hole leaves, and with that the hole comes to the edge.
        cleanOf("#####/#...#/#...#/##.##/..#..", 7, 1, "#####/#...#/#...#/##.##/.....");
        // .. but not if it hangs together with what is round the hole.
        cleanOf("#####/#...#/#...#/##.##/.##..", 7, 7, "#####/#####/#####/#####/.##..");
    }

    // Promise 10: "(one that is turned twice counts twice)": once to white, and to black with its hole.
    private static void turnedTwice() {
        String ring = "#####/#...#/#.#.#/#...#/#####";
        cleanOf(ring, 15, 1 + 9, "#####/#####/#####/#####/#####");
        // With 16 the ring leaves too, and what is white comes to the edge: each is turned but once.
        cleanOf(ring, 16, 17, "...../...../...../...../.....");
        cleanOf("######/#....#/#.#.##/#....#/######", 18, 1 + 11, "######/######/######/######/######");
    }

    // 256 told takes the whole of the greatest picture, 255 does not.
    private static void theGreatestPicture() {
        LocalBounds picture = black(16, 16);
        Check.same("clean(255) of 256", picture.clean(255), 0);
        Check.same("clean(255) of 256: black ones", picture.told(2), 256);
        Check.same("clean(256) of 256", picture.clean(256), 256);
        Check.same("clean(256) of 256: black ones", picture.told(2), 0);
        Check.same("clean(256) of 256 white", picture.clean(256), 0);
    }

    // A hole of 127, with 129 black ones round it; 14 x 9 and one more.
    private static void theGreatestHole() {
        LocalBounds picture = black(16, 16);
        for (int y = 1; y <= 9; y++) {
            for (int x = 1; x <= 14; x++) {
                picture.put(x, y, 255);
            }
        }
        picture.put(1, 10, 255);
        picture.ordered(1);
        Check.same("clean(126) of a hole of 127", picture.clean(126), 0);
        Check.same("clean(127) of a hole of 127", picture.clean(127), 127);
        Check.same("clean(127): black ones", picture.told(2), 256);
        picture.ordered(1);
        Check.same("clean(128) of a hole of 127", picture.clean(128), 127);
        picture.ordered(1);
        Check.same("clean(129) of a hole of 127", picture.clean(129), 129);
        Check.same("clean(129): black ones", picture.told(2), 0);
    }

    private static void theSamplesStay() {
        LocalBounds picture = Check.withResult("###/#.#/###");
        picture.clean(1);
        Check.same("clean leaves the samples", picture.sum(0, 0, 3, 3, false), 255);
        picture.ordered(1);
        Check.same("clean leaves the samples", Check.result(picture), "###/#.#/###");
    }

    private static LocalBounds black(int width, int height) {
        LocalBounds picture = new LocalBounds(width, height);
        picture.ordered(1);
        return picture;
    }

    private static void whiten(LocalBounds picture, int x, int y) {
        picture.put(x, y, 255);
        picture.ordered(1);
    }
}
