/** The example of README.md answers what README.md says it does. */
public final class ReadmeTests {
    public static void main(String[] args) {
        LocalBounds picture = new LocalBounds(4, 3);
        picture.paint(0, 20);
        Check.same("the last sample", picture.sum(3, 2, 1, 1, false), 220);
        Check.same("global", picture.global(), 100);
        Check.same("at", picture.at(1, 0), true);
        Check.same("clean", picture.clean(2), 0);
        Check.same("edges", picture.edges(), 6);
        Check.same("rest", picture.rest(), 0);
        Check.end();
    }
}
