import java.util.Arrays;

/** A small picture of grey samples, and a result of the same size that is black or white. */
public final class LocalBounds {
    public static final int NONE = -1;

    private static final int MOST_SIDE = 16;
    private static final int GREYS = 256;
    private static final int LIGHTEST = 255;
    private static final int MIDDLE = 128;
    private static final int MOST_WINDOW = 31;
    private static final int MOST_SHARE = 64;
    private static final int MOST_CELLS = 8;
    private static final int MOST_SPECK = 256;

    private final int width;
    private final int height;
    private final int count;
    private final int[] samples;
    private final boolean[] black;
    private long lost;

    // The rows below hold nothing from one call to the next: they are made here once,
    // since all that a run's calls make lives in one room.
    private final int[] ofGrey;
    private final int[] came;
    private final long[] sums;
    private final long[] squareSums;
    private final boolean[] marked;
    private final int[] queue;
    private int queued;

    public LocalBounds(int width, int height) {
        this.width = nearestSide(width);
        this.height = nearestSide(height);
        count = this.width * this.height;
        samples = new int[count];
        black = new boolean[count];
        ofGrey = new int[GREYS];
        came = new int[count];
        sums = new long[(this.width + 1) * (this.height + 1)];
        squareSums = new long[(this.width + 1) * (this.height + 1)];
        marked = new boolean[count];
        queue = new int[count];
    }

    public int put(int x, int y, int v) throws IndexOutOfBoundsException, IllegalArgumentException {
        if (!isInside(x, y)) {
            throw new IndexOutOfBoundsException("there is no such sample");
        }
        if (v < 0 || v > LIGHTEST) {
            throw new IllegalArgumentException("a sample is 0 .. 255");
        }
        int place = placeOf(x, y);
        int before = samples[place];
        samples[place] = v;
        return before;
    }

    public int paint(int v, int step) {
        int others = 0;
        // The sum may wrap around: 256 divides 2^32, so its rest by 256 stays right.
        int value = v;
        for (int place = 0; place < count; place++) {
            int painted = Math.floorMod(value, GREYS);
            if (samples[place] != painted) {
                others++;
            }
            samples[place] = painted;
            value += step;
        }
        return others;
    }

    public int global() {
        int bound = bestBound();
        for (int place = 0; place < count; place++) {
            black[place] = samples[place] <= bound;
        }
        return bound;
    }

    public int local(int size, int share) throws IllegalArgumentException {
        if (size < 1 || size > MOST_WINDOW || size % 2 == 0) {
            throw new IllegalArgumentException("a size is odd, and 1 .. 31");
        }
        if (share < 0 || share > MOST_SHARE) {
            throw new IllegalArgumentException("a share is 0 .. 64");
        }
        fillSums();
        int reach = (size - 1) / 2;
        for (int y = 0; y < height; y++) {
            for (int x = 0; x < width; x++) {
                black[placeOf(x, y)] = isDarkInWindow(x, y, reach, share);
            }
        }
        return countBlack();
    }

    public int spread(int kind) throws IllegalArgumentException {
        if (kind < 0 || kind > 2) {
            throw new IllegalArgumentException("a kind is 0 .. 2");
        }
        Arrays.fill(came, 0);
        lost = 0;
        for (int y = 0; y < height; y++) {
            spreadRow(y, kind);
        }
        return countBlack();
    }

    public long rest() {
        return lost;
    }

    public int ordered(int cells) throws IllegalArgumentException {
        if (!isCells(cells)) {
            throw new IllegalArgumentException("cells are 1, 2, 4 or 8");
        }
        for (int y = 0; y < height; y++) {
            for (int x = 0; x < width; x++) {
                int place = placeOf(x, y);
                int bound = GREYS * (2 * cellNumber(cells, x, y) + 1);
                black[place] = 2 * cells * cells * samples[place] < bound;
            }
        }
        return countBlack();
    }

    public int join(int low, int high) throws IllegalArgumentException {
        if (low < -1 || low > high || high > LIGHTEST) {
            throw new IllegalArgumentException("bounds are -1 .. 255, and low is not above high");
        }
        queued = 0;
        for (int place = 0; place < count; place++) {
            black[place] = samples[place] <= low;
            if (black[place]) {
                enqueue(place);
            }
        }
        for (int next = 0; next < count && next < queued; next++) {
            blackenRound(columnOf(queue[next]), rowOf(queue[next]), high);
        }
        return countBlack();
    }

    public int clean(int most) throws IllegalArgumentException {
        if (most < 0 || most > MOST_SPECK) {
            throw new IllegalArgumentException("a number of samples is 0 .. 256");
        }
        int whitened = turnSpecks(true, most);
        int blackened = turnSpecks(false, most);
        return whitened + blackened;
    }

    public int edges() {
        // All are marked before one is turned: each looks at its neighbours as they were.
        for (int y = 0; y < height; y++) {
            for (int x = 0; x < width; x++) {
                marked[placeOf(x, y)] = isEdge(x, y);
            }
        }
        for (int place = 0; place < count; place++) {
            black[place] = marked[place];
        }
        return countBlack();
    }

    public int invert() {
        for (int place = 0; place < count; place++) {
            black[place] = !black[place];
        }
        return countBlack();
    }

    public boolean at(int x, int y) throws IndexOutOfBoundsException {
        if (!isInside(x, y)) {
            throw new IndexOutOfBoundsException("there is no such sample");
        }
        return black[placeOf(x, y)];
    }

    public long sum(int x, int y, int width, int height, boolean squares) throws IllegalArgumentException {
        if (!isPart(x, width, this.width) || !isPart(y, height, this.height)) {
            throw new IllegalArgumentException("the rectangle is not in the picture");
        }
        fillSums();
        return sumBetween(squares ? squareSums : sums, x, y, x + width, y + height);
    }

    public int cell(int cells, int x, int y) throws IllegalArgumentException {
        if (!isCells(cells)) {
            throw new IllegalArgumentException("cells are 1, 2, 4 or 8");
        }
        if (x < 0 || y < 0) {
            throw new IllegalArgumentException("x and y are not below 0");
        }
        return cellNumber(cells, x, y);
    }

    public int told(int what) {
        switch (what) {
            case 0:
                return width;
            case 1:
                return height;
            case 2:
                return countBlack();
            case 3:
                return countBlackParts();
            case 4:
                return countGreys();
            default:
                return NONE;
        }
    }

    public void clear() {
        for (int place = 0; place < count; place++) {
            samples[place] = 0;
            black[place] = false;
        }
        lost = 0;
    }

    // Places

    private static int nearestSide(int side) {
        return Math.max(1, Math.min(MOST_SIDE, side));
    }

    private boolean isInside(int x, int y) {
        return x >= 0 && x < width && y >= 0 && y < height;
    }

    private int placeOf(int x, int y) {
        return y * width + x;
    }

    private int columnOf(int place) {
        return place % width;
    }

    private int rowOf(int place) {
        return place / width;
    }

    /** The far end is not added up, as it could wrap around. */
    private static boolean isPart(int from, int length, int side) {
        return from >= 0 && from <= side && length >= 0 && length <= side - from;
    }

    private int countBlack() {
        int found = 0;
        for (int place = 0; place < count; place++) {
            if (black[place]) {
                found++;
            }
        }
        return found;
    }

    // One bound for all

    private void fillOfGrey() {
        Arrays.fill(ofGrey, 0);
        for (int place = 0; place < count; place++) {
            int grey = samples[place];
            if (grey >= 0 && grey < GREYS) {
                ofGrey[grey]++;
            }
        }
    }

    private int countGreys() {
        fillOfGrey();
        int found = 0;
        for (int grey = 0; grey < GREYS; grey++) {
            if (ofGrey[grey] > 0) {
                found++;
            }
        }
        return found;
    }

    private int bestBound() {
        fillOfGrey();
        long all = sumOfSamples();
        int best = samples[0] - 1;
        // A worth of 0 stands for no bound: two parts that are not empty always have more.
        long bestOver = 0;
        long bestUnder = 1;
        long n = 0;
        long a = 0;
        for (int bound = 0; bound < LIGHTEST; bound++) {
            n += ofGrey[bound];
            a += (long) bound * ofGrey[bound];
            long m = count - n;
            long apart = a * m - (all - a) * n;
            long over = apart * apart;
            long under = n * m;
            // |apart| is at most 255 n m, and n m at most 128^2: these products stay below 2^60.
            if (under > 0 && over * bestUnder > bestOver * under) {
                best = bound;
                bestOver = over;
                bestUnder = under;
            }
        }
        return best;
    }

    private long sumOfSamples() {
        long all = 0;
        for (int place = 0; place < count; place++) {
            all += samples[place];
        }
        return all;
    }

    // Bounds of what is round each

    /** Fills the sums of all rectangles from the upper left on, so that a window costs four looks. */
    private void fillSums() {
        for (int y = 0; y < height; y++) {
            long row = 0;
            long rowOfSquares = 0;
            for (int x = 0; x < width; x++) {
                long value = samples[placeOf(x, y)];
                row += value;
                rowOfSquares += value * value;
                int above = cornerOf(x + 1, y);
                int here = cornerOf(x + 1, y + 1);
                sums[here] = sums[above] + row;
                squareSums[here] = squareSums[above] + rowOfSquares;
            }
        }
    }

    private int cornerOf(int x, int y) {
        return y * (width + 1) + x;
    }

    private long sumBetween(long[] table, int left, int top, int right, int bottom) {
        long lower = table[cornerOf(right, bottom)] - table[cornerOf(left, bottom)];
        long upper = table[cornerOf(right, top)] - table[cornerOf(left, top)];
        return lower - upper;
    }

    private boolean isDarkInWindow(int x, int y, int reach, int share) {
        int left = Math.max(0, x - reach);
        int top = Math.max(0, y - reach);
        int right = Math.min(width, x + reach + 1);
        int bottom = Math.min(height, y + reach + 1);
        long n = (long) (right - left) * (bottom - top);
        long sum = sumBetween(sums, left, top, right, bottom);
        long ofSquares = sumBetween(squareSums, left, top, right, bottom);
        long variety = n * ofSquares - sum * sum;
        int value = samples[placeOf(x, y)];
        if (variety == 0) {
            return value < MIDDLE;
        }
        long darker = sum - n * value;
        return darker >= 0 && 256 * darker * darker >= (long) share * share * variety;
    }

    // Errors that go on

    private void spreadRow(int y, int kind) {
        boolean backward = kind == 1 && y % 2 == 1;
        int step = backward ? -1 : 1;
        int x = backward ? width - 1 : 0;
        for (int done = 0; done < width; done++) {
            spreadSample(x, y, step, kind);
            x += step;
        }
    }

    private void spreadSample(int x, int y, int step, int kind) {
        int place = placeOf(x, y);
        int value = samples[place] + came[place];
        black[place] = value < MIDDLE;
        int missed = black[place] ? value : value - LIGHTEST;
        // Java's own division is towards 0, as halves and quarters are here.
        int ahead = missed / 2;
        int below = kind == 2 ? missed / 4 : missed - ahead;
        int behind = missed - ahead - below;
        passTo(x + step, y, ahead);
        passTo(x, y + 1, below);
        passTo(x - step, y + 1, behind);
    }

    private void passTo(int x, int y, int error) {
        if (isInside(x, y)) {
            came[placeOf(x, y)] += error;
        } else {
            lost += error;
        }
    }

    // Cells in order

    private static boolean isCells(int cells) {
        return cells == 1 || cells == 2 || cells == 4 || cells == 8;
    }

    /** Goes from the innermost cells out: only the last bits of x and y count, which are their rests. */
    private static int cellNumber(int cells, int x, int y) {
        int number = 0;
        for (int half = 1; half < cells && half < MOST_CELLS; half *= 2) {
            number = 4 * number + quarterNumber((x & half) != 0, (y & half) != 0);
        }
        return number;
    }

    private static int quarterNumber(boolean right, boolean lower) {
        if (lower) {
            return right ? 1 : 3;
        }
        return right ? 2 : 0;
    }

    // What hangs together

    /** Each place comes into the queue once at most, so the queue is never too short. */
    private void enqueue(int place) {
        if (queued >= 0 && queued < queue.length) {
            queue[queued] = place;
            queued++;
        }
    }

    private void blackenRound(int x, int y, int high) {
        for (int nearY = y - 1; nearY <= y + 1; nearY++) {
            for (int nearX = x - 1; nearX <= x + 1; nearX++) {
                if (isInside(nearX, nearY)) {
                    blackenUpTo(placeOf(nearX, nearY), high);
                }
            }
        }
    }

    private void blackenUpTo(int place, int high) {
        if (!black[place] && samples[place] <= high) {
            black[place] = true;
            enqueue(place);
        }
    }

    private void unmarkAll() {
        for (int place = 0; place < count; place++) {
            marked[place] = false;
        }
    }

    /** Queues and marks the part that hangs together by sides with a place of this colour. */
    private void gatherPart(int start, boolean colour) {
        queued = 0;
        marked[start] = true;
        enqueue(start);
        for (int next = 0; next < count && next < queued; next++) {
            int x = columnOf(queue[next]);
            int y = rowOf(queue[next]);
            gather(x - 1, y, colour);
            gather(x + 1, y, colour);
            gather(x, y - 1, colour);
            gather(x, y + 1, colour);
        }
    }

    private void gather(int x, int y, boolean colour) {
        if (!isInside(x, y)) {
            return;
        }
        int place = placeOf(x, y);
        if (black[place] == colour && !marked[place]) {
            marked[place] = true;
            enqueue(place);
        }
    }

    private int countBlackParts() {
        unmarkAll();
        int parts = 0;
        for (int place = 0; place < count; place++) {
            if (black[place] && !marked[place]) {
                gatherPart(place, true);
                parts++;
            }
        }
        return parts;
    }

    // Specks and edges

    private int turnSpecks(boolean colour, int most) {
        unmarkAll();
        int turned = 0;
        for (int place = 0; place < count; place++) {
            if (black[place] == colour && !marked[place]) {
                gatherPart(place, colour);
                if (isSpeck(colour, most)) {
                    turned += turnQueued(!colour);
                }
            }
        }
        return turned;
    }

    private boolean isSpeck(boolean colour, int most) {
        return queued <= most && (colour || !queuedComeToEdge());
    }

    private boolean queuedComeToEdge() {
        for (int next = 0; next < count && next < queued; next++) {
            int x = columnOf(queue[next]);
            int y = rowOf(queue[next]);
            if (x == 0 || y == 0 || x == width - 1 || y == height - 1) {
                return true;
            }
        }
        return false;
    }

    private int turnQueued(boolean colour) {
        for (int next = 0; next < count && next < queued; next++) {
            int place = queue[next];
            if (place >= 0 && place < count) {
                black[place] = colour;
            }
        }
        return queued;
    }

    private boolean isEdge(int x, int y) {
        return isBlack(x, y)
            && !(isBlack(x - 1, y) && isBlack(x + 1, y) && isBlack(x, y - 1) && isBlack(x, y + 1));
    }

    /** What is beyond the picture is not black, and so makes an edge of what it lies beside. */
    private boolean isBlack(int x, int y) {
        return isInside(x, y) && black[placeOf(x, y)];
    }
}
