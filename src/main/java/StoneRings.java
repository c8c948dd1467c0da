import java.util.Arrays;

/** Rings of ear stones, and what readers counted of them. */
public final class StoneRings {
    public static final int NONE = -1;

    private static final int MOST_SIDE = 16;
    private static final int MOST_PIXEL = 255;
    private static final int MOST_RAYS = 8;
    private static final int MOST_STEP = 5;
    // A ring is above the place before it and not below the one behind it, so no two stand side by side.
    private static final int MOST_RINGS = MOST_SIDE / 2;
    private static final int MOST_APART = 10;
    private static final int MOST_SKIP = 50;
    private static final int MOST_LENGTH = 100000;
    private static final int READERS = 4;
    private static final int STONES = 20;
    private static final int MOST_COUNTED = 60;
    private static final int DAYS = 365;

    private final Picture picture;
    private final int[] across = new int[MOST_RAYS];
    private final int[] down = new int[MOST_RAYS];
    private final Trace first = new Trace();
    private final Trace second = new Trace();
    private final Pairing pairing = new Pairing();
    private final Readings readings = new Readings();
    private int rayCount = 0;
    private int apartRule = 2;
    private int highRule = 5;

    public StoneRings(int width, int height) {
        picture = new Picture(nearestSide(width), nearestSide(height));
    }

    public boolean pixel(int x, int y, int v) throws IndexOutOfBoundsException, IllegalArgumentException {
        if (!picture.holds(x, y)) {
            throw new IndexOutOfBoundsException("no such pixel");
        }
        needNumber(v, 0, MOST_PIXEL);
        return picture.put(x, y, v);
    }

    public int middle(int axis) throws IndexOutOfBoundsException {
        needPlace(axis, 2);
        return axis == 0 ? picture.centreX() : picture.centreY();
    }

    public int ray(int dx, int dy) throws IllegalArgumentException, IllegalStateException {
        needNumber(dx, -MOST_STEP, MOST_STEP);
        needNumber(dy, -MOST_STEP, MOST_STEP);
        if (dx == 0 && dy == 0) {
            throw new IllegalArgumentException("a ray without a direction");
        }
        if (rayCount >= MOST_RAYS) {
            throw new IllegalStateException("no room for another ray");
        }
        across[rayCount] = dx;
        down[rayCount] = dy;
        rayCount++;
        return rayCount - 1;
    }

    public int samples(int ray) throws IndexOutOfBoundsException {
        follow(ray, first);
        return first.length;
    }

    public int sample(int ray, int k, boolean evened) throws IndexOutOfBoundsException {
        follow(ray, first);
        needPlace(k, first.length);
        return evened ? first.evens[k] : first.values[k];
    }

    public void rule(int apart, int high) throws IllegalArgumentException {
        needNumber(apart, 1, MOST_APART);
        needNumber(high, 0, MOST_PIXEL);
        apartRule = apart;
        highRule = high;
    }

    public int rings(int ray) throws IndexOutOfBoundsException {
        follow(ray, first);
        return first.found;
    }

    public int ring(int ray, int k, int what) throws IndexOutOfBoundsException {
        follow(ray, first);
        needPlace(k, first.found);
        needPlace(what, 4);
        switch (what) {
            case 0:
                return first.places[k];
            case 1:
                return first.evens[first.places[k]];
            case 2:
                return first.widthOf(k);
            default:
                return first.isFalse(k) ? 1 : 0;
        }
    }

    public int join(int ray, int other, int skip) throws IndexOutOfBoundsException, IllegalArgumentException {
        follow(ray, first);
        follow(other, second);
        needNumber(skip, 0, MOST_SKIP);
        return pairing.pair(first, second, skip);
    }

    public int joined(int k) throws IllegalStateException, IndexOutOfBoundsException {
        if (!pairing.made) {
            throw new IllegalStateException("no rays were joined");
        }
        needPlace(k, pairing.size);
        return pairing.partners[k];
    }

    public int back(int ray, int k, int length) throws IndexOutOfBoundsException, IllegalArgumentException {
        follow(ray, first);
        needPlace(k, first.found);
        needNumber(length, 0, MOST_LENGTH);
        return floorOf(length * first.places[k], first.length - 1);
    }

    public void tell(int reader, int stone, int counted)
            throws IndexOutOfBoundsException, IllegalArgumentException, IllegalStateException {
        needPlace(reader, READERS);
        needPlace(stone, STONES);
        needNumber(counted, 0, MOST_COUNTED);
        if (readings.has(reader, stone)) {
            throw new IllegalStateException("the reader told a count of that stone before");
        }
        readings.put(reader, stone, counted);
    }

    public boolean may(int reader, int stone) throws IndexOutOfBoundsException {
        needPlace(reader, READERS);
        needPlace(stone, STONES);
        return readings.has(reader, stone);
    }

    public int seen(int reader, int other, int stone) throws IndexOutOfBoundsException, IllegalStateException {
        needPlace(reader, READERS);
        needPlace(other, READERS);
        needPlace(stone, STONES);
        if (!readings.has(reader, stone)) {
            throw new IllegalStateException("the reader told no count of that stone yet");
        }
        return readings.of(other, stone);
    }

    public int agree(int reader, int other, int part) throws IndexOutOfBoundsException {
        needPair(reader, other, part);
        return fractionPart(readings.alike(reader, other), readings.shared(reader, other), part);
    }

    public int bias(int reader, int other, int part) throws IndexOutOfBoundsException {
        needPair(reader, other, part);
        return fractionPart(readings.excess(reader, other), readings.shared(reader, other), part);
    }

    public int told(int stone) throws IndexOutOfBoundsException {
        needPlace(stone, STONES);
        return readings.mostTold(stone);
    }

    public int right(int reader) throws IndexOutOfBoundsException {
        needPlace(reader, READERS);
        return readings.hits(reader);
    }

    public int best(int k) throws IndexOutOfBoundsException {
        needPlace(k, READERS);
        return readings.readerAt(k);
    }

    public int age(int stone, int day, int birthday) throws IndexOutOfBoundsException, IllegalArgumentException {
        needPlace(stone, STONES);
        needNumber(day, 0, DAYS - 1);
        needNumber(birthday, 0, DAYS - 1);
        int years = readings.mostTold(stone);
        if (years == NONE) {
            return NONE;
        }
        return day < birthday ? Math.max(years - 1, 0) : years;
    }

    public boolean twin(int ray, int other) throws IndexOutOfBoundsException {
        follow(ray, first);
        follow(other, second);
        return first.sameValues(second);
    }

    public int count(int what) {
        switch (what) {
            case 0:
                return rayCount;
            case 1:
                return readings.stonesWithCounts();
            case 2:
                return readings.size;
            case 3:
                return picture.sum;
            default:
                return NONE;
        }
    }

    private void follow(int number, Trace trace) {
        needPlace(number, rayCount);
        trace.walk(picture, across[number], down[number]);
        trace.evenOut();
        trace.findRings(apartRule, highRule);
    }

    private static void needPlace(int place, int size) {
        if (place < 0 || place >= size) {
            throw new IndexOutOfBoundsException("no such place");
        }
    }

    private static void needNumber(int number, int least, int greatest) {
        if (number < least || number > greatest) {
            throw new IllegalArgumentException("a number outside its bounds");
        }
    }

    private static void needPair(int reader, int other, int part) {
        needPlace(reader, READERS);
        needPlace(other, READERS);
        needPlace(part, 2);
    }

    private static int nearestSide(int side) {
        return Math.max(1, Math.min(side, MOST_SIDE));
    }

    private static int floorOf(int above, int below) {
        return below < 1 ? 0 : Math.floorDiv(above, below);
    }

    private static int fractionPart(int above, int below, int part) {
        if (below < 1) {
            return part == 0 ? 0 : 1;
        }
        int divisor = commonDivisor(Math.abs(above), below);
        int whole = part == 0 ? above : below;
        return divisor < 1 ? whole : whole / divisor;
    }

    private static int commonDivisor(int one, int two) {
        int greater = one;
        int lesser = two;
        // The rest at least halves in two steps, so 64 of them are more than any int needs.
        for (int step = 0; step < 64 && lesser != 0; step++) {
            int rest = greater % lesser;
            greater = lesser;
            lesser = rest;
        }
        return greater;
    }

    /** The pixels, with the sums from which the middle comes. */
    private static final class Picture {
        final int width;
        final int height;
        final int[] pixels;
        int sum = 0;
        int sumX = 0;
        int sumY = 0;

        Picture(int width, int height) {
            this.width = width;
            this.height = height;
            pixels = new int[MOST_SIDE * MOST_SIDE];
        }

        boolean holds(int x, int y) {
            return x >= 0 && x < width && y >= 0 && y < height;
        }

        int at(int x, int y) {
            return holds(x, y) ? pixels[y * MOST_SIDE + x] : 0;
        }

        boolean put(int x, int y, int v) {
            int more = v - at(x, y);
            if (more == 0 || !holds(x, y)) {
                return false;
            }
            pixels[y * MOST_SIDE + x] = v;
            sum += more;
            sumX += x * more;
            sumY += y * more;
            return true;
        }

        int centreX() {
            return sum < 1 ? NONE : floorOf(sumX, sum);
        }

        int centreY() {
            return sum < 1 ? NONE : floorOf(sumY, sum);
        }
    }

    /** A ray's samples and rings as the picture and the rule are now; made once and filled for each call. */
    private static final class Trace {
        final int[] values = new int[MOST_SIDE];
        final int[] evens = new int[MOST_SIDE];
        final int[] places = new int[MOST_RINGS];
        int length = 0;
        int found = 0;

        void walk(Picture picture, int dx, int dy) {
            length = 0;
            int n = Math.max(Math.abs(dx), Math.abs(dy));
            if (picture.sum < 1 || n < 1) {
                return;
            }
            int x = picture.centreX();
            int y = picture.centreY();
            // Each step goes one pixel on along the greater of both, so there are no more than a side's.
            for (int i = 0; i < MOST_SIDE; i++) {
                int sampleX = x + floorOf(2 * dx * i + n, 2 * n);
                int sampleY = y + floorOf(2 * dy * i + n, 2 * n);
                if (!picture.holds(sampleX, sampleY)) {
                    return;
                }
                values[i] = picture.at(sampleX, sampleY);
                length = i + 1;
            }
        }

        void evenOut() {
            for (int k = 0; k < length; k++) {
                int before = k > 0 ? values[k - 1] : values[k];
                int behind = k < length - 1 ? values[k + 1] : values[k];
                evens[k] = floorOf(before + 2 * values[k] + behind + 2, 4);
            }
        }

        void findRings(int apart, int high) {
            found = 0;
            int last = 0;
            int least = length > 0 ? evens[0] : 0;
            for (int k = 1; k < length - 1 && found < MOST_RINGS; k++) {
                least = Math.min(least, evens[k]);
                boolean top = evens[k] > evens[k - 1] && evens[k] >= evens[k + 1];
                if (top && k - last >= apart && evens[k] - least >= high) {
                    places[found] = k;
                    found++;
                    last = k;
                    least = evens[k];
                }
            }
        }

        int widthOf(int k) {
            return k > 0 ? places[k] - places[k - 1] : places[k];
        }

        boolean isFalse(int k) {
            if (k < 1 || k >= found - 1) {
                return false;
            }
            int twice = 2 * widthOf(k);
            return twice < widthOf(k - 1) && twice < widthOf(k + 1);
        }

        boolean sameValues(Trace other) {
            if (length != other.length) {
                return false;
            }
            for (int k = 0; k < length; k++) {
                if (values[k] != other.values[k]) {
                    return false;
                }
            }
            return true;
        }
    }

    /** The latest join of two rays. */
    private static final class Pairing {
        static final int SIDE = MOST_RINGS + 1;
        // The least cost of the rings from i on of the first ray and from j on of the second one.
        final int[] costs = new int[SIDE * SIDE];
        final int[] partners = new int[MOST_RINGS];
        int size = 0;
        boolean made = false;

        int pair(Trace one, Trace two, int skip) {
            made = true;
            size = one.found;
            fillCosts(one, two, skip);
            choosePartners(one, two, skip);
            return costs[0];
        }

        // From the outermost rings inwards, so that the way can then be chosen from the innermost on.
        void fillCosts(Trace one, Trace two, int skip) {
            for (int i = one.found; i >= 0; i--) {
                for (int j = two.found; j >= 0; j--) {
                    costs[i * SIDE + j] = leastFrom(one, two, i, j, skip);
                }
            }
        }

        int leastFrom(Trace one, Trace two, int i, int j, int skip) {
            if (i >= one.found) {
                return (two.found - j) * skip;
            }
            if (j >= two.found) {
                return (one.found - i) * skip;
            }
            int leaving = skip + Math.min(costs[(i + 1) * SIDE + j], costs[i * SIDE + j + 1]);
            return Math.min(together(one, two, i, j), leaving);
        }

        int together(Trace one, Trace two, int i, int j) {
            return Math.abs(one.places[i] - two.places[j]) + costs[(i + 1) * SIDE + j + 1];
        }

        void choosePartners(Trace one, Trace two, int skip) {
            int i = 0;
            int j = 0;
            for (int step = 0; step < one.found + two.found && i < one.found; step++) {
                int least = costs[i * SIDE + j];
                if (j < two.found && together(one, two, i, j) == least) {
                    partners[i] = j;
                    i++;
                    j++;
                } else if (j >= two.found || skip + costs[(i + 1) * SIDE + j] == least) {
                    partners[i] = NONE;
                    i++;
                } else {
                    j++;
                }
            }
        }
    }

    /** What the readers told of the stones. */
    private static final class Readings {
        final int[] counts = new int[READERS * STONES];
        // Filled anew for each question of who is best, so that no call makes a row of its own.
        final int[] ranks = new int[READERS];
        int size = 0;

        Readings() {
            Arrays.fill(counts, NONE);
        }

        int of(int reader, int stone) {
            return counts[reader * STONES + stone];
        }

        boolean has(int reader, int stone) {
            return of(reader, stone) != NONE;
        }

        void put(int reader, int stone, int counted) {
            counts[reader * STONES + stone] = counted;
            size++;
        }

        boolean bothTold(int reader, int other, int stone) {
            return has(reader, stone) && has(other, stone);
        }

        int shared(int reader, int other) {
            int stones = 0;
            for (int stone = 0; stone < STONES; stone++) {
                if (bothTold(reader, other, stone)) {
                    stones++;
                }
            }
            return stones;
        }

        int alike(int reader, int other) {
            int stones = 0;
            for (int stone = 0; stone < STONES; stone++) {
                if (bothTold(reader, other, stone) && of(reader, stone) == of(other, stone)) {
                    stones++;
                }
            }
            return stones;
        }

        int excess(int reader, int other) {
            int more = 0;
            for (int stone = 0; stone < STONES; stone++) {
                if (bothTold(reader, other, stone)) {
                    more += of(reader, stone) - of(other, stone);
                }
            }
            return more;
        }

        int mostTold(int stone) {
            int chosen = NONE;
            int chosenVotes = 0;
            for (int reader = 0; reader < READERS; reader++) {
                int counted = of(reader, stone);
                int votes = counted == NONE ? 0 : votesFor(stone, counted);
                if (votes > chosenVotes || votes > 0 && votes == chosenVotes && counted < chosen) {
                    chosen = counted;
                    chosenVotes = votes;
                }
            }
            return chosen;
        }

        int votesFor(int stone, int counted) {
            int votes = 0;
            for (int reader = 0; reader < READERS; reader++) {
                if (of(reader, stone) == counted) {
                    votes++;
                }
            }
            return votes;
        }

        int hits(int reader) {
            int stones = 0;
            for (int stone = 0; stone < STONES; stone++) {
                if (has(reader, stone) && of(reader, stone) == mostTold(stone)) {
                    stones++;
                }
            }
            return stones;
        }

        int readerAt(int place) {
            for (int reader = 0; reader < READERS; reader++) {
                ranks[reader] = hits(reader);
            }
            for (int reader = 0; reader < READERS; reader++) {
                if (readersBefore(reader) == place) {
                    return reader;
                }
            }
            return NONE;
        }

        int readersBefore(int reader) {
            int before = 0;
            for (int other = 0; other < READERS; other++) {
                if (ranks[other] > ranks[reader] || ranks[other] == ranks[reader] && other < reader) {
                    before++;
                }
            }
            return before;
        }

        int stonesWithCounts() {
            int stones = 0;
            for (int stone = 0; stone < STONES; stone++) {
                if (mostTold(stone) != NONE) {
                    stones++;
                }
            }
            return stones;
        }
    }
}
