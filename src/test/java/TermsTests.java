import java.util.function.ToIntFunction;

/**
 * What "Terms" says of the picture, its samples and its result: each sentence that names a boundary stands
 * over its test, which holds it on both sides; what is due was worked out by hand.
 */
public final class TermsTests {
    private static final int MIN = Integer.MIN_VALUE;
    private static final int MAX = Integer.MAX_VALUE;

    public static void main(String[] args) {
        sidesCountAsTheNearest();
        samplesAreBytes();
        samplesAreZeroAtFirst();
        theResultIsWhiteAtFirst();
        theResultStays();
        theResultIsMadeAnew();
        divisionsAreDownward();
        Check.end();
    }

    // "The picture has a WIDTH and a HEIGHT, each 1 .. 16 (other numbers count as the nearest of these)."
    private static void sidesCountAsTheNearest() {
        int[][] asked = {
            {MIN, 1}, {-17, 1}, {-1, 1}, {0, 1}, {1, 1}, {2, 2}, {8, 8}, {15, 15}, {16, 16}, {17, 16}, {32, 16},
            {256, 16}, {MAX, 16}};
        for (int[] width : asked) {
            for (int[] height : asked) {
                LocalBounds picture = new LocalBounds(width[0], height[0]);
                String what = "sides " + width[0] + ", " + height[0];
                Check.same(what + ": width", picture.told(0), width[1]);
                Check.same(what + ": height", picture.told(1), height[1]);
                Check.same(what + ": the last sample", picture.put(width[1] - 1, height[1] - 1, 9), 0);
                Check.same(what + ": all samples", picture.invert(), width[1] * height[1]);
                refusesPut(what + ": beyond across", picture, width[1], 0);
                refusesPut(what + ": beyond down", picture, 0, height[1]);
            }
        }
    }

    private static void refusesPut(String what, LocalBounds picture, int x, int y) {
        Check.same(what, Check.thrownBy(() -> picture.put(x, y, 1)), "IndexOutOfBoundsException");
    }

    // "SAMPLES are 0 .. 255": the least and the greatest are taken, what is beside them is not.
    private static void samplesAreBytes() {
        LocalBounds picture = new LocalBounds(2, 1);
        Check.same("put 255", picture.put(0, 0, 255), 0);
        Check.same("put 0", picture.put(0, 0, 0), 255);
        Check.same("put 254", picture.put(0, 0, 254), 0);
        Check.same("put 1", picture.put(0, 0, 1), 254);
        for (int v : new int[] {-1, 256, -255, 257, MIN, MAX}) {
            Check.refuses("put " + v, picture, IllegalArgumentException.class, () -> picture.put(0, 0, v));
        }
    }

    // "at first 0"
    private static void samplesAreZeroAtFirst() {
        LocalBounds picture = new LocalBounds(16, 16);
        Check.same("at first: the sum", picture.sum(0, 0, 16, 16, false), 0);
        Check.same("at first: different samples", picture.told(4), 1);
        Check.same("at first: the last one", picture.put(15, 15, 1), 0);
        Check.same("one put: different samples", picture.told(4), 2);
    }

    // "There is a RESULT of the same size, black or white, at first white"
    private static void theResultIsWhiteAtFirst() {
        for (int side : new int[] {1, 2, 16}) {
            LocalBounds picture = new LocalBounds(side, side);
            Check.same("at first: black ones", picture.told(2), 0);
            Check.same("at first: parts", picture.told(3), 0);
            Check.same("at first: the last one", picture.at(side - 1, side - 1), false);
            Check.same("at first: edges", picture.edges(), 0);
            Check.same("at first: specks", picture.clean(256), 0);
            Check.same("at first: turned", picture.invert(), side * side);
            Check.same("turned: the last one", picture.at(side - 1, side - 1), true);
        }
    }

    // "it stays as it is till it is made anew": no call but one that makes it changes it.
    private static void theResultStays() {
        LocalBounds picture = Check.withResult("#.#/..#");
        picture.put(1, 0, 0);
        Check.same("put leaves the result", Check.result(picture), "#.#/..#");
        picture.paint(0, 0);
        Check.same("paint leaves the result", Check.result(picture), "#.#/..#");
        picture.sum(0, 0, 3, 2, true);
        picture.cell(8, 9, 9);
        picture.rest();
        for (int what = -1; what <= 5; what++) {
            picture.told(what);
        }
        Check.same("asking leaves the result", Check.result(picture), "#.#/..#");
    }

    // .. and each that makes it begins anew, whatever it was, and leaves the samples as they are.
    private static void theResultIsMadeAnew() {
        for (String before : new String[] {"###/###", ".../...", "#.#/.#."}) {
            madeAnew("global", before, "##./...", LocalBounds::global);
            madeAnew("local", before, "##./...", picture -> picture.local(3, 0));
            madeAnew("spread", before, "##./...", picture -> picture.spread(0));
            madeAnew("ordered", before, "##./...", picture -> picture.ordered(1));
            madeAnew("join", before, "##./...", picture -> picture.join(0, 10));
        }
    }

    private static void madeAnew(
            String call, String before, String after, ToIntFunction<LocalBounds> make) {
        LocalBounds picture = Check.withResult(before);
        int[] samples = {0, 10, 255, 255, 200, 255};
        for (int i = 0; i < samples.length; i++) {
            picture.put(i % 3, i / 3, samples[i]);
        }
        make.applyAsInt(picture);
        Check.same(call + " after " + before, Check.result(picture), after);
        for (int i = 0; i < samples.length; i++) {
            Check.same(call + " leaves the samples", picture.sum(i % 3, i / 3, 1, 1, false), samples[i]);
        }
    }

    // "All divisions are downward." The one where it shows is paint's rest by 256.
    private static void divisionsAreDownward() {
        int[][] painted = {
            {0, 0}, {255, 255}, {256, 0}, {257, 1}, {511, 255}, {512, 0},
            {-1, 255}, {-255, 1}, {-256, 0}, {-257, 255}, {-512, 0}, {MAX, 255}, {MIN, 0}, {MIN + 1, 1}};
        for (int[] pair : painted) {
            LocalBounds picture = new LocalBounds(1, 1);
            picture.paint(pair[0], 77);
            Check.same("paint " + pair[0], picture.sum(0, 0, 1, 1, false), pair[1]);
        }
    }
}
