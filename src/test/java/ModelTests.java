/**
 * Long fixed runs of calls, each answered by the class and by Model, which does all in the plainest way
 * and shares no way of working with the class; after each call all that can be seen is compared. With what is
 * asked to compare, an object gets more than the document's 512 calls: the class keeps no count of them.
 */
public final class ModelTests {
    private static final int CALLS = 512;
    private static long seed = 1;

    public static void main(String[] args) {
        int[][] sides = {{16, 16}, {1, 1}, {1, 16}, {16, 1}, {7, 5}, {2, 2}, {3, 9}, {12, 16}, {5, 5}, {4, 4}};
        for (int round = 0; round < 6; round++) {
            for (int[] side : sides) {
                run(side[0], side[1]);
            }
        }
        Check.end();
    }

    /** The same numbers in every run of the tests. */
    private static int number(int from, int to) {
        seed = seed * 6364136223846793005L + 1442695040888963407L;
        return from + (int) Math.floorMod(seed >> 33, (long) (to - from + 1));
    }

    private static void run(int width, int height) {
        LocalBounds picture = new LocalBounds(width, height);
        Model model = new Model(width, height);
        for (int call = 0; call < CALLS; call++) {
            int before = number(0, 9);
            if (before < 3) {
                fill(picture, model, before);
            }
            String what = width + " x " + height + ", call " + call + ": ";
            compareCall(what, picture, model);
            compareAll(what, picture, model);
        }
    }

    private static void fill(LocalBounds picture, Model model, int how) {
        int top = new int[] {3, 40, 255}[how];
        int base = number(0, 255 - top);
        for (int y = 0; y < model.height; y++) {
            for (int x = 0; x < model.width; x++) {
                int v = base + number(0, top);
                Check.same("put", picture.put(x, y, v), model.grey[y][x]);
                model.grey[y][x] = v;
            }
        }
    }

    private static void compareCall(String what, LocalBounds picture, Model model) {
        int a = number(-1, 3);
        switch (number(0, 9)) {
            case 0:
                int v = number(-300, 300);
                int step = number(-300, 300);
                Check.same(what + "paint", picture.paint(v, step), model.paint(v, step));
                break;
            case 1:
                Check.same(what + "global", picture.global(), model.global());
                break;
            case 2:
                int size = 2 * number(0, 15) + 1;
                int share = a < 2 ? number(0, 64) : number(0, 20);
                Check.same(what + "local", picture.local(size, share), model.local(size, share));
                break;
            case 3:
                int kind = number(0, 2);
                Check.same(what + "spread", picture.spread(kind), model.spread(kind));
                break;
            case 4:
                int cells = 1 << number(0, 3);
                Check.same(what + "ordered", picture.ordered(cells), model.ordered(cells));
                break;
            case 5:
                int low = number(-1, 255);
                int high = number(low, 255);
                Check.same(what + "join", picture.join(low, high), model.join(low, high));
                break;
            case 6:
                int most = a < 2 ? number(0, 6) : number(0, 256);
                Check.same(what + "clean", picture.clean(most), model.clean(most));
                break;
            case 7:
                Check.same(what + "edges", picture.edges(), model.edges());
                break;
            case 8:
                Check.same(what + "invert", picture.invert(), model.invert());
                break;
            default:
                compareSum(what, picture, model);
                if (a == 0) {
                    picture.clear();
                    model.clear();
                }
        }
    }

    private static void compareSum(String what, LocalBounds picture, Model model) {
        int x = number(0, model.width);
        int y = number(0, model.height);
        int width = number(0, model.width - x);
        int height = number(0, model.height - y);
        boolean squares = number(0, 1) == 1;
        Check.same(what + "sum", picture.sum(x, y, width, height, squares), model.sum(x, y, width, height, squares));
    }

    private static void compareAll(String what, LocalBounds picture, Model model) {
        for (int y = 0; y < model.height; y++) {
            for (int x = 0; x < model.width; x++) {
                String spot = what + x + ", " + y;
                Check.same(spot + " black", picture.at(x, y) ? 1 : 0, model.black[y][x] ? 1 : 0);
                Check.same(spot + " grey", picture.sum(x, y, 1, 1, false), model.grey[y][x]);
                Check.same(spot + " cell", picture.cell(8, x, y), model.cells(8)[y % 8][x % 8]);
            }
        }
        Check.same(what + "rest", picture.rest(), model.rest);
        Check.same(what + "black ones", picture.told(2), model.blackOnes());
        Check.same(what + "parts", picture.told(3), model.parts());
        Check.same(what + "greys", picture.told(4), model.greys());
    }
}
