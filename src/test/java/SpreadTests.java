/**
 * What "Terms" says of ERRORS that go on, and of the REST: each sentence that names a boundary stands over its
 * test, which holds it on both sides; what is due was worked out by hand.
 */
public final class SpreadTests {
    private static final int WHITE = 255;

    public static void main(String[] args) {
        blackBelowTheMiddle();
        lessTheWhite();
        halvesAhead();
        whatIsLeftGoesBelow();
        quartersBelow();
        whatIsLeftGoesBehind();
        errorsBeyondTheSamples();
        everySecondRowBackward();
        lostBeyondThePicture();
        lostBehind();
        theRestIsAllThatIsLost();
        theRestIsOfTheLatest();
        nothingIsLeftOver();
        Check.end();
    }

    private static void blackOf(String what, int kind, LocalBounds picture, String result) {
        String call = "spread(" + kind + ") of " + what;
        int black = (int) result.chars().filter(sign -> sign == '#').count();
        Check.same(call, picture.spread(kind), black);
        Check.same(call, Check.result(picture), result);
    }

    private static void row(String result, int kind, int... samples) {
        blackOf("a row", kind, Check.picture(samples.length, samples), result);
    }

    private static void column(String result, int kind, int... samples) {
        blackOf("a column", kind, Check.picture(1, samples), result);
    }

    // "it is black if that is below 128"
    private static void blackBelowTheMiddle() {
        for (int kind = 0; kind <= 2; kind++) {
            row("#", kind, 0);
            row("#", kind, 127);
            row(".", kind, 128);
            row(".", kind, 255);
        }
    }

    // "what is missed is that, less 255 if it is white"
    private static void lessTheWhite() {
        for (int kind = 0; kind <= 2; kind++) {
            missedOf(kind, 0, 0);
            missedOf(kind, 1, 1);
            missedOf(kind, 127, 127);
            missedOf(kind, 128, -127);
            missedOf(kind, 254, -1);
            missedOf(kind, 255, 0);
        }
    }

    private static void missedOf(int kind, int sample, int missed) {
        LocalBounds picture = Check.picture(1, sample);
        picture.spread(kind);
        Check.same("spread(" + kind + ") of " + sample + ": what is missed", picture.rest(), missed);
    }

    // "half of what is missed goes to the next one of its row" and "Halves .. are towards 0."
    private static void halvesAhead() {
        for (int kind = 0; kind <= 2; kind++) {
            row("##", kind, 0, 127);
            row("##", kind, 1, 127);
            row("#.", kind, 2, 127);
            row("##", kind, 3, 126);
            row("#.", kind, 3, 127);
            row("##", kind, 127, 64);
            row("#.", kind, 127, 65);
            row("..", kind, 255, 128);
            row("..", kind, 254, 128);
            row(".#", kind, 253, 128);
            row("..", kind, 253, 129);
            row("..", kind, 252, 129);
            row(".#", kind, 252, 128);
            row(".#", kind, 128, 190);
            row("..", kind, 128, 191);
        }
    }

    // "Kinds 0 and 1: .. the rest to that below": all of 1 and -1, and 2 of 3, and so on.
    private static void whatIsLeftGoesBelow() {
        for (int kind = 0; kind <= 1; kind++) {
            column("#/#", kind, 0, 127);
            column("#/#", kind, 1, 126);
            column("#/.", kind, 1, 127);
            column("#/#", kind, 3, 125);
            column("#/.", kind, 3, 126);
            column("#/#", kind, 127, 63);
            column("#/.", kind, 127, 64);
            column("./.", kind, 255, 128);
            column("./#", kind, 254, 128);
            column("./.", kind, 254, 129);
            column("./#", kind, 252, 129);
            column("./.", kind, 252, 130);
            column("./#", kind, 128, 191);
            column("./.", kind, 128, 192);
        }
    }

    // "Kind 2: .. a quarter to that below" and ".. quarters are towards 0."
    private static void quartersBelow() {
        column("#/#", 2, 3, 127);
        column("#/.", 2, 4, 127);
        column("#/#", 2, 7, 126);
        column("#/.", 2, 7, 127);
        column("#/#", 2, 8, 125);
        column("#/.", 2, 8, 126);
        column("#/#", 2, 127, 96);
        column("#/.", 2, 127, 97);
        column("./.", 2, 252, 128);
        column("./#", 2, 251, 128);
        column("./.", 2, 251, 129);
        column("./.", 2, 248, 129);
        column("./#", 2, 248, 128);
        column("./#", 2, 128, 158);
        column("./.", 2, 128, 159);
    }

    // "the rest to that below behind it (which was before it in the row)": of 3 that is 2, of 7 it is 3.
    private static void whatIsLeftGoesBehind() {
        behind("##/##", 0, 0, 127);
        behind("##/##", 1, 1, 126);
        behind("##/.#", 1, 1, 127);
        behind("##/##", 3, 2, 125);
        behind("##/.#", 3, 2, 126);
        behind("##/##", 7, 3, 124);
        behind("##/.#", 7, 3, 125);
        behind("#./##", 254, -1, 128);
        behind("#./.#", 254, -1, 129);
        behind("#./##", 252, -2, 129);
        behind("#./.#", 252, -2, 130);
        behind("#./##", 128, -33, 160);
        behind("#./.#", 128, -33, 161);
    }

    /** A sample at the upper right passes this much to the lower left, and no other does. */
    private static void behind(String result, int sample, int passed, int lowerLeft) {
        LocalBounds picture = Check.picture(2, 0, sample, lowerLeft, 0);
        blackOf("behind " + sample + ", " + lowerLeft, 2, picture, result);
        int value = lowerLeft + passed;
        Check.same("behind " + sample + ", " + lowerLeft + ": as passed", value < 128, picture.at(0, 1));
    }

    // Nothing is cut off: values go above 255 (255 + 63 misses 63) and below 0 (0 - 63 misses -63).
    private static void errorsBeyondTheSamples() {
        for (int kind = 0; kind <= 2; kind++) {
            row("#.#", kind, 127, 255, 96);
            row("#..", kind, 127, 255, 97);
            row(".##", kind, 128, 0, 158);
            row(".#.", kind, 128, 0, 159);
        }
    }

    // "(kind 1: every second row backward)": 100, 100 is black first, and white where the row goes on.
    private static void everySecondRowBackward() {
        for (int row = 0; row < 16; row++) {
            for (int kind = 0; kind <= 2; kind++) {
                LocalBounds picture = new LocalBounds(2, 16);
                picture.put(0, row, 100);
                picture.put(1, row, 100);
                picture.spread(kind);
                boolean backward = kind == 1 && row % 2 == 1;
                String what = "spread(" + kind + "), row " + row;
                Check.same(what + ": left", picture.at(0, row), !backward);
                Check.same(what + ": right", picture.at(1, row), backward);
            }
        }
    }

    // "What would go beyond the picture is LOST": 50 of 100 at a row's end do not come to another row, and in the
    // last row, or in a column alone, there is nothing that takes it.
    private static void lostBeyondThePicture() {
        for (int kind = 0; kind <= 2; kind += 2) {
            blackOf("the end of a row", kind, Check.picture(2, 0, 100, 100, 0), "##/##");
            blackOf("no end of a row", kind, Check.picture(2, 0, 0, 100, 78), "##/#.");
        }
        blackOf("the end of a row backward", 1, Check.picture(2, 0, 0, 100, 0, 0, 102), "##/##/##");
        blackOf("the end of a row backward", 1, Check.picture(2, 0, 0, 100, 0, 0, 103), "##/##/#.");
        for (int kind = 0; kind <= 2; kind++) {
            rest("a sample alone", Check.picture(1, 101), kind, 101);
            rest("a white one alone", Check.picture(1, 201), kind, 201 - WHITE);
            // The second one takes 50 and is white: 51 and -127 are lost.
            rest("one that is ahead", Check.picture(2, 101, 78), kind, 101 + 78 - WHITE);
        }
    }

    // .. and what goes below behind the first of a row: 27 of 103, while the second's comes to the first.
    private static void lostBehind() {
        LocalBounds first = Check.picture(2, 103, 0, 103, 0);
        blackOf("the first of a row", 2, first, "##/.#");
        LocalBounds second = Check.picture(2, 0, 103, 100, 0);
        blackOf("the second of a row, 127", 2, second, "##/##");
        second.put(0, 1, 101);
        blackOf("the second of a row, 128", 2, second, "##/.#");
    }

    // "the REST is the sum of all that is": what samples have that black and white ones have not.
    private static void theRestIsAllThatIsLost() {
        int[][] sides = {{1, 1}, {1, 16}, {16, 1}, {2, 2}, {5, 3}, {16, 15}, {16, 16}};
        int[][] paints = {{0, 0}, {255, 0}, {127, 0}, {128, 0}, {1, 0}, {254, 0}, {0, 1}, {255, -1}, {3, 77}};
        for (int[] side : sides) {
            for (int[] how : paints) {
                for (int kind = 0; kind <= 2; kind++) {
                    LocalBounds picture = new LocalBounds(side[0], side[1]);
                    picture.paint(how[0], how[1]);
                    long white = side[0] * side[1] - picture.spread(kind);
                    long grey = picture.sum(0, 0, side[0], side[1], false);
                    String what = "rest of " + side[0] + " x " + side[1] + ", paint " + how[0] + ", " + how[1];
                    Check.same(what, picture.rest(), grey - white * WHITE);
                }
            }
        }
    }

    // Promise 7: "The REST of the latest spread(); 0 before."
    private static void theRestIsOfTheLatest() {
        LocalBounds picture = Check.picture(1, 100);
        Check.same("rest before", picture.rest(), 0);
        picture.global();
        picture.local(3, 1);
        picture.ordered(1);
        picture.join(0, 255);
        picture.invert();
        Check.same("rest before, other results", picture.rest(), 0);
        picture.spread(0);
        Check.same("rest", picture.rest(), 100);
        Check.same("rest asked again", picture.rest(), 100);
        picture.spread(2);
        Check.same("rest of the latest alone", picture.rest(), 100);
        picture.put(0, 0, 200);
        Check.same("rest stays as samples change", picture.rest(), 100);
        picture.spread(1);
        Check.same("rest anew", picture.rest(), -55);
        picture.clear();
        Check.same("rest cleared", picture.rest(), 0);
    }

    // The errors of one spread() do not come to the next one.
    private static void nothingIsLeftOver() {
        LocalBounds picture = Check.picture(2, 100, 100, 100, 100);
        for (int again = 0; again < 3; again++) {
            blackOf("four alike", 0, picture, "#./.#");
            Check.same("four alike: rest", picture.rest(), -110);
            blackOf("four alike", 1, picture, "#./.#");
            blackOf("four alike", 2, picture, "#./##");
            Check.same("four alike: rest", picture.rest(), 145);
        }
    }

    private static void rest(String what, LocalBounds picture, int kind, int due) {
        picture.spread(kind);
        Check.same("spread(" + kind + ") of " + what + ": rest", picture.rest(), due);
    }
}
