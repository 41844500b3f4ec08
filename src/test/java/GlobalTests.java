/**
 * What "Terms" says of GLOBAL: each sentence that names a boundary stands over its test, which holds it on
 * both sides; what is due was worked out by hand.
 */
public final class GlobalTests {
    public static void main(String[] args) {
        partsAtTheBound();
        bothPartsHaveSamples();
        theGreatestWorthIsTaken();
        theWorthIsAFraction();
        ofEqualOnesTheLeast();
        theWholePicture();
        allAlike();
        nearlyAlike();
        Check.end();
    }

    private static void globalOf(String what, LocalBounds picture, int bound, String result) {
        Check.same("global of " + what, picture.global(), bound);
        Check.same("global of " + what, Check.result(picture), result);
    }

    // "a bound t parts samples into n at most t, and m above it" and "Black are samples of at most the bound."
    private static void partsAtTheBound() {
        globalOf("a step of one", Check.picture(4, 101, 100, 100, 101), 100, ".##.");
        globalOf("a sample above is white", Check.picture(4, 7, 8, 200, 200), 8, "##..");
        globalOf("a sample at most is black", Check.picture(4, 7, 7, 200, 200), 7, "##..");
        globalOf("a gap has its least bound", Check.picture(2, 10, 250), 10, "#.");
    }

    // "of those with n and m above 0": below the least sample n is 0, from the greatest on m is.
    private static void bothPartsHaveSamples() {
        globalOf("0 and 1", Check.picture(2, 0, 1), 0, "#.");
        globalOf("0 and 255", Check.picture(2, 255, 0), 0, ".#");
        globalOf("1 and 2", Check.picture(2, 1, 2), 1, "#.");
        globalOf("253 and 254", Check.picture(2, 253, 254), 253, "#.");
        globalOf("254 and 255", Check.picture(2, 255, 254), 254, ".#");
    }

    // "that with the greatest worth is taken": 29^2 / 2 beside 28^2 / 2, then 31^2 / 2 beside 32^2 / 2.
    private static void theGreatestWorthIsTaken() {
        globalOf("the first is better", Check.picture(3, 0, 10, 19), 0, "#..");
        globalOf("the second is better", Check.picture(3, 0, 10, 21), 10, "##.");
        globalOf("the middle one is better", Check.picture(4, 0, 1, 9, 10), 1, "##..");
    }

    // "its worth is (A m - B n)^2 / (n m), as a fraction": 61^2 / 9 is 413 and 4 / 9, 82^2 / 16 is 420 and 1 / 4.
    private static void theWorthIsAFraction() {
        globalOf("a fraction above", Check.picture(10, 0, 4, 7, 7, 7, 7, 7, 7, 7, 8), 4, "##........");
        globalOf("a fraction below", Check.picture(10, 0, 4, 7, 7, 7, 7, 7, 7, 7, 6), 0, "#.........");
        // 13^2 / 4 is 42 and 1 / 4, 16^2 / 6 is 42 and 2 / 3: the same but for what is left over.
        globalOf("fractions of one number", Check.picture(5, 0, 2, 3, 3, 5), 2, "##...");
        globalOf("fractions of one number, turned", Check.picture(5, 5, 3, 2, 2, 0), 2, "..###");
    }

    // "of these the least": equal worths of equal parts, and 60^2 / 9 beside 80^2 / 16, both 400.
    private static void ofEqualOnesTheLeast() {
        globalOf("equal worths", Check.picture(3, 0, 10, 20), 0, "#..");
        globalOf("equal worths, turned", Check.picture(3, 255, 250, 245), 245, "..#");
        globalOf("equal fractions", Check.picture(10, 0, 4, 7, 7, 7, 7, 7, 7, 7, 7), 0, "#.........");
        globalOf("equal fractions, turned", Check.picture(10, 7, 3, 0, 0, 0, 0, 0, 0, 0, 0), 0, "..########");
    }

    // The greatest numbers that can come: 256 samples, half of them 0 and half 255.
    private static void theWholePicture() {
        LocalBounds picture = halves(0, 255);
        Check.same("global of halves", picture.global(), 0);
        Check.same("global of halves: black ones", picture.told(2), 128);
        // One sample of 254 among the light half does not draw the bound up, nor one of 1 among the dark.
        picture.put(15, 15, 254);
        Check.same("global of halves and 254", picture.global(), 0);
        picture.put(15, 15, 255);
        picture.put(0, 0, 1);
        Check.same("global of halves and 1", picture.global(), 1);
        Check.same("global of halves and 1: black ones", picture.told(2), 128);
        LocalBounds one = alike(16, 16, 255);
        one.put(7, 7, 0);
        Check.same("global of one dark", one.global(), 0);
        Check.same("global of one dark: black ones", one.told(2), 1);
        LocalBounds other = alike(16, 16, 0);
        other.put(7, 7, 255);
        Check.same("global of one light", other.global(), 0);
        Check.same("global of one light: black ones", other.told(2), 255);
    }

    // "if there is none (all samples alike), it is one less than the samples."
    private static void allAlike() {
        for (int side : new int[] {1, 2, 16}) {
            for (int v : new int[] {0, 1, 2, 127, 128, 254, 255}) {
                LocalBounds picture = alike(side, side, v);
                picture.invert();
                String what = "global of " + side + " x " + side + " of " + v;
                Check.same(what, picture.global(), v - 1);
                Check.same(what + ": black ones", picture.told(2), 0);
            }
        }
    }

    // .. and with one sample that is another one there is a bound.
    private static void nearlyAlike() {
        for (int v : new int[] {0, 1, 127, 254}) {
            LocalBounds picture = alike(16, 16, v);
            picture.put(15, 15, v + 1);
            Check.same("global of " + v + " and one above", picture.global(), v);
            Check.same("global of " + v + " and one above: black ones", picture.told(2), 255);
            picture.paint(v + 1, 0);
            picture.put(0, 0, v);
            Check.same("global of one below " + (v + 1), picture.global(), v);
            Check.same("global of one below " + (v + 1) + ": black ones", picture.told(2), 1);
        }
    }

    private static LocalBounds alike(int width, int height, int v) {
        LocalBounds picture = new LocalBounds(width, height);
        picture.paint(v, 0);
        return picture;
    }

    private static LocalBounds halves(int upper, int lower) {
        LocalBounds picture = alike(16, 16, upper);
        for (int y = 8; y < 16; y++) {
            for (int x = 0; x < 16; x++) {
                picture.put(x, y, lower);
            }
        }
        return picture;
    }
}
