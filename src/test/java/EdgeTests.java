/**
 * What "Terms" says of EDGES: each sentence that names a boundary stands over its test, which holds it on both
 * sides; what is due was worked out by hand.
 */
public final class EdgeTests {
    public static void main(String[] args) {
        aWhiteNeighbourBySide();
        aWhiteOneAtACorner();
        beyondThePicture();
        smallPictures();
        allOthersBecomeWhite();
        asTheyWereBefore();
        theGreatestPicture();
        theSamplesStay();
        Check.end();
    }

    private static void edgesOf(String before, String after) {
        LocalBounds picture = Check.withResult(before);
        int black = (int) after.chars().filter(sign -> sign == '#').count();
        Check.same("edges of " + before, picture.edges(), black);
        Check.same("edges of " + before, Check.result(picture), after);
    }

    // "black samples of which a neighbour by its side is white .. stay black"
    private static void aWhiteNeighbourBySide() {
        edgesOf("###/###/###", "###/#.#/###");
        edgesOf("#.#/###/###", "#.#/###/###");
        edgesOf("###/.##/###", "###/.##/###");
        edgesOf("###/##./###", "###/##./###");
        edgesOf("###/###/#.#", "###/###/#.#");
    }

    // .. a white one at its corner is no such neighbour.
    private static void aWhiteOneAtACorner() {
        edgesOf(".##/###/###", ".##/#.#/###");
        edgesOf("##./###/###", "##./#.#/###");
        edgesOf("###/###/.##", "###/#.#/.##");
        edgesOf("###/###/##.", "###/#.#/##.");
        edgesOf(".#./###/.#.", ".#./#.#/.#.");
    }

    // "or beyond the picture": the outermost stay black, those one further in do not.
    private static void beyondThePicture() {
        edgesOf("####/####/####/####", "####/#..#/#..#/####");
        edgesOf("#####/#####/#####", "#####/#...#/#####");
        edgesOf("###/###/###/###/###", "###/#.#/#.#/#.#/###");
        edgesOf(".###/####/####", ".###/#..#/####");
    }

    private static void smallPictures() {
        edgesOf("#", "#");
        edgesOf(".", ".");
        edgesOf("##/##", "##/##");
        edgesOf("#####", "#####");
        edgesOf("#/#/#/#", "#/#/#/#");
        edgesOf("####/####", "####/####");
        edgesOf("##/##/##", "##/##/##");
    }

    // "all others become white": black ones inside, and white ones stay white, with black ones round them too.
    private static void allOthersBecomeWhite() {
        edgesOf(".../.../...", ".../.../...");
        edgesOf("###/#.#/###", "###/#.#/###");
        edgesOf("#####/#####/##.##/#####/#####", "#####/#.#.#/##.##/#.#.#/#####");
    }

    // Each looks at the result as it was: what becomes white makes no edge of what it lies beside.
    private static void asTheyWereBefore() {
        edgesOf("######/######/######/######/######/######", "######/#....#/#....#/#....#/#....#/######");
        LocalBounds picture = Check.withResult("###/###/###");
        Check.same("edges", picture.edges(), 8);
        Check.same("edges of edges", picture.edges(), 8);
        picture.invert();
        Check.same("edges of the middle one", picture.edges(), 1);
    }

    private static void theGreatestPicture() {
        LocalBounds picture = new LocalBounds(16, 16);
        Check.same("edges at first", picture.edges(), 0);
        picture.invert();
        Check.same("edges of all black", picture.edges(), 60);
        Check.same("edges of all black: the last", picture.at(15, 15), true);
        Check.same("edges of all black: one further in", picture.at(14, 14), false);
    }

    private static void theSamplesStay() {
        LocalBounds picture = Check.withResult("###/###/###");
        picture.edges();
        Check.same("edges leave the samples", picture.sum(0, 0, 3, 3, false), 0);
    }
}
