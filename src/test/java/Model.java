import java.math.BigInteger;
import java.util.HashMap;
import java.util.Map;
import java.util.Set;
import java.util.TreeSet;

/** The document's words done one by one, with no care for speed: what the class is compared with. */
final class Model {
    final int width;
    final int height;
    final int[][] grey;
    boolean[][] black;
    long rest;

    Model(int width, int height) {
        this.width = width;
        this.height = height;
        grey = new int[height][width];
        black = new boolean[height][width];
    }

    void clear() {
        for (int[] row : grey) {
            java.util.Arrays.fill(row, 0);
        }
        black = new boolean[height][width];
        rest = 0;
    }

    int paint(int v, int step) {
        int others = 0;
        for (int i = 0; i < width * height; i++) {
            int due = (int) ((((long) v + (long) i * step) % 256 + 256) % 256);
            others += grey[i / width][i % width] == due ? 0 : 1;
            grey[i / width][i % width] = due;
        }
        return others;
    }

    int global() {
        int best = grey[0][0] - 1;
        BigInteger over = null;
        BigInteger under = null;
        for (int t = -1; t <= 255; t++) {
            long n = 0;
            long m = 0;
            long a = 0;
            long b = 0;
            for (int[] row : grey) {
                for (int v : row) {
                    n += v <= t ? 1 : 0;
                    a += v <= t ? v : 0;
                    m += v > t ? 1 : 0;
                    b += v > t ? v : 0;
                }
            }
            if (n == 0 || m == 0) {
                continue;
            }
            BigInteger worth = BigInteger.valueOf(a * m - b * n).pow(2);
            BigInteger parts = BigInteger.valueOf(n * m);
            if (over == null || worth.multiply(under).compareTo(over.multiply(parts)) > 0) {
                best = t;
                over = worth;
                under = parts;
            }
        }
        for (int y = 0; y < height; y++) {
            for (int x = 0; x < width; x++) {
                black[y][x] = grey[y][x] <= best;
            }
        }
        return best;
    }

    int local(int size, int share) {
        for (int y = 0; y < height; y++) {
            for (int x = 0; x < width; x++) {
                black[y][x] = localBlack(x, y, size, share);
            }
        }
        return blackOnes();
    }

    private boolean localBlack(int x, int y, int size, int share) {
        long n = 0;
        long s = 0;
        long q = 0;
        for (int j = 0; j < height; j++) {
            for (int i = 0; i < width; i++) {
                if (2 * Math.abs(i - x) <= size - 1 && 2 * Math.abs(j - y) <= size - 1) {
                    n++;
                    s += grey[j][i];
                    q += (long) grey[j][i] * grey[j][i];
                }
            }
        }
        long spread = n * q - s * s;
        if (spread == 0) {
            return grey[y][x] < 128;
        }
        long d = s - n * grey[y][x];
        return d >= 0 && 256 * d * d >= share * share * spread;
    }

    int spread(int kind) {
        // A row more below and a column more at each side: what comes there is lost.
        int[][] value = new int[height + 1][width + 2];
        for (int y = 0; y < height; y++) {
            for (int x = 0; x < width; x++) {
                value[y][x + 1] = grey[y][x];
            }
        }
        for (int y = 0; y < height; y++) {
            boolean back = kind == 1 && y % 2 != 0;
            for (int i = 1; i <= width; i++) {
                int x = back ? width + 1 - i : i;
                black[y][x - 1] = value[y][x] < 128;
                int missed = value[y][x] - (black[y][x - 1] ? 0 : 255);
                int half = Integer.signum(missed) * (Math.abs(missed) / 2);
                int quarter = Integer.signum(missed) * (Math.abs(missed) / 4);
                value[y][back ? x - 1 : x + 1] += half;
                if (kind == 2) {
                    value[y + 1][x] += quarter;
                    value[y + 1][x - 1] += missed - half - quarter;
                } else {
                    value[y + 1][x] += missed - half;
                }
            }
        }
        rest = 0;
        for (int y = 0; y <= height; y++) {
            for (int x = 0; x < width + 2; x++) {
                rest += y == height || x == 0 || x == width + 1 ? value[y][x] : 0;
            }
        }
        return blackOnes();
    }

    int[][] cells(int n) {
        if (n == 1) {
            return new int[1][1];
        }
        int[][] inner = cells(n / 2);
        int[][] cells = new int[n][n];
        for (int y = 0; y < n / 2; y++) {
            for (int x = 0; x < n / 2; x++) {
                cells[y][x] = 4 * inner[y][x];
                cells[y][x + n / 2] = 4 * inner[y][x] + 2;
                cells[y + n / 2][x] = 4 * inner[y][x] + 3;
                cells[y + n / 2][x + n / 2] = 4 * inner[y][x] + 1;
            }
        }
        return cells;
    }

    int ordered(int n) {
        int[][] cells = cells(n);
        for (int y = 0; y < height; y++) {
            for (int x = 0; x < width; x++) {
                black[y][x] = 2 * n * n * grey[y][x] < 256 * (2 * cells[y % n][x % n] + 1);
            }
        }
        return blackOnes();
    }

    int join(int low, int high) {
        boolean[][] open = new boolean[height][width];
        for (int y = 0; y < height; y++) {
            for (int x = 0; x < width; x++) {
                open[y][x] = grey[y][x] <= high;
            }
        }
        int[][] label = labels(open, true, true);
        Set<Integer> dark = new TreeSet<>();
        for (int y = 0; y < height; y++) {
            for (int x = 0; x < width; x++) {
                if (grey[y][x] <= low) {
                    dark.add(label[y][x]);
                }
            }
        }
        for (int y = 0; y < height; y++) {
            for (int x = 0; x < width; x++) {
                black[y][x] = dark.contains(label[y][x]);
            }
        }
        return blackOnes();
    }

    /** Each spot of this colour has the least number of its part's spots, from 1 on, each other one 0. */
    private int[][] labels(boolean[][] of, boolean colour, boolean corners) {
        int[][] label = new int[height][width];
        for (int y = 0; y < height; y++) {
            for (int x = 0; x < width; x++) {
                label[y][x] = of[y][x] == colour ? y * width + x + 1 : 0;
            }
        }
        boolean changed = true;
        while (changed) {
            changed = false;
            for (int y = 0; y < height; y++) {
                for (int x = 0; x < width; x++) {
                    int least = label[y][x] == 0 ? 0 : leastNear(label, x, y, corners);
                    changed |= least != label[y][x];
                    label[y][x] = least;
                }
            }
        }
        return label;
    }

    private int leastNear(int[][] label, int x, int y, boolean corners) {
        int least = label[y][x];
        for (int j = Math.max(0, y - 1); j <= Math.min(height - 1, y + 1); j++) {
            for (int i = Math.max(0, x - 1); i <= Math.min(width - 1, x + 1); i++) {
                if ((corners || i == x || j == y) && label[j][i] != 0) {
                    least = Math.min(least, label[j][i]);
                }
            }
        }
        return least;
    }

    int clean(int most) {
        return turn(true, most) + turn(false, most);
    }

    private int turn(boolean colour, int most) {
        int[][] label = labels(black, colour, false);
        Map<Integer, Integer> size = new HashMap<>();
        Set<Integer> atEdge = new TreeSet<>();
        for (int y = 0; y < height; y++) {
            for (int x = 0; x < width; x++) {
                size.merge(label[y][x], 1, Integer::sum);
                if (x == 0 || y == 0 || x == width - 1 || y == height - 1) {
                    atEdge.add(label[y][x]);
                }
            }
        }
        int turned = 0;
        for (int y = 0; y < height; y++) {
            for (int x = 0; x < width; x++) {
                int part = label[y][x];
                if (part != 0 && size.get(part) <= most && (colour || !atEdge.contains(part))) {
                    black[y][x] = !colour;
                    turned++;
                }
            }
        }
        return turned;
    }

    int edges() {
        boolean[][] now = new boolean[height][width];
        for (int y = 0; y < height; y++) {
            for (int x = 0; x < width; x++) {
                boolean inner = x > 0 && y > 0 && x < width - 1 && y < height - 1
                    && black[y][x - 1] && black[y][x + 1] && black[y - 1][x] && black[y + 1][x];
                now[y][x] = black[y][x] && !inner;
            }
        }
        black = now;
        return blackOnes();
    }

    int invert() {
        for (boolean[] row : black) {
            for (int x = 0; x < width; x++) {
                row[x] = !row[x];
            }
        }
        return blackOnes();
    }

    long sum(int x, int y, int across, int down, boolean squares) {
        long sum = 0;
        for (int j = y; j < y + down; j++) {
            for (int i = x; i < x + across; i++) {
                sum += squares ? (long) grey[j][i] * grey[j][i] : grey[j][i];
            }
        }
        return sum;
    }

    int blackOnes() {
        int found = 0;
        for (boolean[] row : black) {
            for (boolean spot : row) {
                found += spot ? 1 : 0;
            }
        }
        return found;
    }

    int parts() {
        Set<Integer> parts = new TreeSet<>();
        for (int[] row : labels(black, true, false)) {
            for (int part : row) {
                parts.add(part);
            }
        }
        parts.remove(0);
        return parts.size();
    }

    int greys() {
        Set<Integer> greys = new TreeSet<>();
        for (int[] row : grey) {
            for (int v : row) {
                greys.add(v);
            }
        }
        return greys.size();
    }
}
