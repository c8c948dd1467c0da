import java.util.Random;

/**
 * Seeded runs of calls, each answer compared with a second, slower reading of the document that keeps
 * nothing but what was told and counts everything anew (the joins by trying every way).
 */
public final class StoneRingsModel {
    private static final String INDEX = "throws.IndexOutOfBoundsException";
    private static final String ARGUMENT = "throws.IllegalArgumentException";
    private static final String STATE = "throws.IllegalStateException";

    private static int wrong = 0;
    private static int calls = 0;
    private static int callsOfRun = 0;
    private static int falseRings = 0;
    private static int mostRings = 0;
    private static int joinsWithTies = 0;
    private static int pairsPutTogether = 0;
    private static int twinsOfTwoRays = 0;

    private interface Call {
        Object answer();
    }

    /** The document, read plainly. */
    private static final class Plain {
        final int width;
        final int height;
        final int[][] pixels;
        final int[][] rays = new int[8][];
        int rayCount = 0;
        int apart = 2;
        int high = 5;
        int[] latest = null;
        final Integer[][] counts = new Integer[4][20];

        Plain(int width, int height) {
            this.width = width < 1 ? 1 : width > 16 ? 16 : width;
            this.height = height < 1 ? 1 : height > 16 ? 16 : height;
            pixels = new int[this.width][this.height];
        }

        static int floor(int a, int b) {
            int q = 0;
            while (q * b > a) {
                q--;
            }
            while ((q + 1) * b <= a) {
                q++;
            }
            return q;
        }

        int sum() {
            int s = 0;
            for (int[] column : pixels) {
                for (int v : column) {
                    s += v;
                }
            }
            return s;
        }

        int centre(int axis) {
            int s = 0;
            for (int x = 0; x < width; x++) {
                for (int y = 0; y < height; y++) {
                    s += pixels[x][y] * (axis == 0 ? x : y);
                }
            }
            return sum() == 0 ? -1 : floor(s, sum());
        }

        int[] samplesOf(int ray) {
            int[] found = new int[100];
            int n = 0;
            if (sum() > 0) {
                int dx = rays[ray][0];
                int dy = rays[ray][1];
                int size = Math.max(Math.abs(dx), Math.abs(dy));
                for (int i = 0; ; i++) {
                    int x = centre(0) + floor(2 * dx * i + size, 2 * size);
                    int y = centre(1) + floor(2 * dy * i + size, 2 * size);
                    if (x < 0 || y < 0 || x >= width || y >= height) {
                        break;
                    }
                    found[n++] = pixels[x][y];
                }
            }
            return java.util.Arrays.copyOf(found, n);
        }

        int[] evenedOf(int ray) {
            int[] s = samplesOf(ray);
            int[] e = new int[s.length];
            for (int k = 0; k < s.length; k++) {
                e[k] = floor(s[Math.max(k - 1, 0)] + 2 * s[k] + s[Math.min(k + 1, s.length - 1)] + 2, 4);
            }
            return e;
        }

        int[] ringsOf(int ray) {
            int[] e = evenedOf(ray);
            int[] found = new int[100];
            int n = 0;
            for (int k = 1; k <= e.length - 2; k++) {
                int before = n == 0 ? 0 : found[n - 1];
                int least = 1000;
                for (int at = before; at <= k; at++) {
                    least = Math.min(least, e[at]);
                }
                if (e[k] > e[k - 1] && !(e[k] < e[k + 1]) && k >= before + apart && e[k] >= least + high) {
                    found[n++] = k;
                }
            }
            mostRings = Math.max(mostRings, n);
            return java.util.Arrays.copyOf(found, n);
        }

        int ringWidth(int[] rings, int k) {
            return rings[k] - (k == 0 ? 0 : rings[k - 1]);
        }

        boolean ringIsFalse(int[] rings, int k) {
            return k > 0 && k + 1 < rings.length && 2 * ringWidth(rings, k) < ringWidth(rings, k - 1)
                    && 2 * ringWidth(rings, k) < ringWidth(rings, k + 1);
        }

        boolean noRay(int ray) {
            return ray < 0 || ray >= rayCount;
        }

        Object pixel(int x, int y, int v) {
            if (x < 0 || y < 0 || x >= width || y >= height) {
                return INDEX;
            }
            if (v < 0 || v > 255) {
                return ARGUMENT;
            }
            boolean other = pixels[x][y] != v;
            pixels[x][y] = v;
            return other;
        }

        Object ray(int dx, int dy) {
            if (dx < -5 || dx > 5 || dy < -5 || dy > 5 || dx == 0 && dy == 0) {
                return ARGUMENT;
            }
            if (rayCount == 8) {
                return STATE;
            }
            rays[rayCount] = new int[] {dx, dy};
            return rayCount++;
        }

        Object rule(int a, int h) {
            if (a < 1 || a > 10 || h < 0 || h > 255) {
                return ARGUMENT;
            }
            apart = a;
            high = h;
            return "void";
        }

        Object sample(int ray, int k, boolean evened) {
            if (noRay(ray) || k < 0 || k >= samplesOf(ray).length) {
                return INDEX;
            }
            return evened ? evenedOf(ray)[k] : samplesOf(ray)[k];
        }

        Object ring(int ray, int k, int what) {
            if (noRay(ray) || k < 0 || k >= ringsOf(ray).length || what < 0 || what > 3) {
                return INDEX;
            }
            int[] rings = ringsOf(ray);
            if (what == 3 && ringIsFalse(rings, k)) {
                falseRings++;
            }
            int[] all = {rings[k], evenedOf(ray)[rings[k]], ringWidth(rings, k), ringIsFalse(rings, k) ? 1 : 0};
            return all[what];
        }

        Object join(int ray, int other, int skip) {
            if (noRay(ray) || noRay(other)) {
                return INDEX;
            }
            if (skip < 0 || skip > 50) {
                return ARGUMENT;
            }
            Ways ways = new Ways(ringsOf(ray), ringsOf(other), skip);
            ways.go(0, 0, 0);
            latest = ways.kept;
            if (ways.ties > 0) {
                joinsWithTies++;
            }
            for (int partner : latest) {
                pairsPutTogether += partner >= 0 ? 1 : 0;
            }
            return ways.least;
        }

        Object joined(int k) {
            return latest == null ? STATE : k < 0 || k >= latest.length ? INDEX : (Object) latest[k];
        }

        Object back(int ray, int k, int length) {
            if (noRay(ray) || k < 0 || k >= ringsOf(ray).length) {
                return INDEX;
            }
            if (length < 0 || length > 100000) {
                return ARGUMENT;
            }
            return floor(length * ringsOf(ray)[k], samplesOf(ray).length - 1);
        }

        boolean noReader(int reader) {
            return reader < 0 || reader > 3;
        }

        boolean noStone(int stone) {
            return stone < 0 || stone > 19;
        }

        Object tell(int reader, int stone, int counted) {
            if (noReader(reader) || noStone(stone)) {
                return INDEX;
            }
            if (counted < 0 || counted > 60) {
                return ARGUMENT;
            }
            if (counts[reader][stone] != null) {
                return STATE;
            }
            counts[reader][stone] = counted;
            return "void";
        }

        Object may(int reader, int stone) {
            return noReader(reader) || noStone(stone) ? INDEX : (Object) (counts[reader][stone] != null);
        }

        Object seen(int reader, int other, int stone) {
            if (noReader(reader) || noReader(other) || noStone(stone)) {
                return INDEX;
            }
            if (counts[reader][stone] == null) {
                return STATE;
            }
            return counts[other][stone] == null ? (Integer) (-1) : counts[other][stone];
        }

        static int fraction(int above, int below, int part) {
            if (below == 0) {
                return part;
            }
            for (int d = below; d > 1; d--) {
                if (above % d == 0 && below % d == 0) {
                    return fraction(above / d, below / d, part);
                }
            }
            return part == 0 ? above : below;
        }

        Object compare(int reader, int other, int part, boolean agreement) {
            if (noReader(reader) || noReader(other) || part < 0 || part > 1) {
                return INDEX;
            }
            int above = 0;
            int below = 0;
            for (int stone = 0; stone < 20; stone++) {
                Integer a = counts[reader][stone];
                Integer b = counts[other][stone];
                if (a != null && b != null) {
                    below++;
                    above += agreement ? (a.equals(b) ? 1 : 0) : a - b;
                }
            }
            return fraction(above, below, part);
        }

        int toldOf(int stone) {
            int best = -1;
            int most = 0;
            for (int counted = 0; counted <= 60; counted++) {
                int votes = 0;
                for (int reader = 0; reader < 4; reader++) {
                    votes += counts[reader][stone] != null && counts[reader][stone] == counted ? 1 : 0;
                }
                if (votes > most) {
                    most = votes;
                    best = counted;
                }
            }
            return best;
        }

        int rightOf(int reader) {
            int n = 0;
            for (int stone = 0; stone < 20; stone++) {
                n += counts[reader][stone] != null && counts[reader][stone] == toldOf(stone) ? 1 : 0;
            }
            return n;
        }

        Object best(int k) {
            if (noReader(k)) {
                return INDEX;
            }
            Integer[] order = {0, 1, 2, 3};
            java.util.Arrays.sort(order, (a, b) -> rightOf(b) - rightOf(a));
            return order[k];
        }

        Object age(int stone, int day, int birthday) {
            if (noStone(stone)) {
                return INDEX;
            }
            if (day < 0 || day > 364 || birthday < 0 || birthday > 364) {
                return ARGUMENT;
            }
            int t = toldOf(stone);
            return t == -1 ? -1 : t == 0 ? 0 : day < birthday ? t - 1 : t;
        }

        Object twin(int ray, int other) {
            if (noRay(ray) || noRay(other)) {
                return INDEX;
            }
            boolean same = java.util.Arrays.equals(samplesOf(ray), samplesOf(other));
            if (same && ray != other && samplesOf(ray).length > 1) {
                twinsOfTwoRays++;
            }
            return same;
        }

        Object count(int what) {
            int stones = 0;
            int all = 0;
            for (int stone = 0; stone < 20; stone++) {
                int here = 0;
                for (int reader = 0; reader < 4; reader++) {
                    here += counts[reader][stone] != null ? 1 : 0;
                }
                stones += here > 0 ? 1 : 0;
                all += here;
            }
            return what == 0 ? rayCount : what == 1 ? stones : what == 2 ? all : what == 3 ? sum() : -1;
        }
    }

    /** Every way of joining, the preferred ones first, so that the first of the least cost is the one that counts. */
    private static final class Ways {
        final int[] one;
        final int[] two;
        final int skip;
        final int[] now;
        int[] kept = null;
        int least = 0;
        int ties = 0;

        Ways(int[] one, int[] two, int skip) {
            this.one = one;
            this.two = two;
            this.skip = skip;
            now = new int[one.length];
        }

        void go(int i, int j, int cost) {
            if (i == one.length && j == two.length) {
                if (kept != null && cost == least && !java.util.Arrays.equals(kept, now)) {
                    ties++;
                }
                if (kept == null || cost < least) {
                    kept = now.clone();
                    least = cost;
                    ties = 0;
                }
                return;
            }
            if (i < one.length && j < two.length) {
                now[i] = j;
                go(i + 1, j + 1, cost + Math.abs(one[i] - two[j]));
            }
            if (i < one.length) {
                now[i] = -1;
                go(i + 1, j, cost + skip);
            }
            if (j < two.length) {
                go(i, j + 1, cost + skip);
            }
        }
    }

    private static void due(int run, String call, Call real, Object want) {
        // Behind its 512th call an object may answer as it likes.
        if (callsOfRun == 512) {
            return;
        }
        callsOfRun++;
        Object got;
        try {
            got = real.answer();
        } catch (RuntimeException e) {
            got = "throws." + e.getClass().getSimpleName();
        }
        calls++;
        if (!got.equals(want)) {
            wrong++;
            if (wrong < 40) {
                System.out.println("run " + run + ": " + call + " answered " + got + ", due is " + want);
            }
        }
    }

    private static final int[] ODD = {-1, Integer.MIN_VALUE, Integer.MAX_VALUE, 256, 17, 1000};

    private static int pick(Random random, int bound) {
        return random.nextInt(40) == 0 ? ODD[random.nextInt(ODD.length)] : random.nextInt(bound);
    }

    private static void bothPixel(int run, StoneRings x, Plain p, int a, int b, int v) {
        due(run, "pixel(" + a + ", " + b + ", " + v + ")", () -> x.pixel(a, b, v), p.pixel(a, b, v));
    }

    // The lines of random shades seldom have many rings or false ones; these have seven, and one false one each.
    private static final int[][] LINES = {
        {6, 21, 2, 24, 0, 25, 0, 24, 2, 21, 6, 16, 12, 9, 20, 0},
        {13, 0, 0, 0, 6, 12, 0, 12, 6, 0, 0, 12, 12, 12, 12, 12},
        {14, 6, 6, 12, 0, 6, 12, 0, 12, 6, 0, 0, 6, 0, 12, 0},
        {16, 6, 0, 0, 6, 12, 6, 12, 12, 6, 0, 6, 6, 12, 6, 6},
    };

    /** A heavy left side and little weight elsewhere keep the middle there, so that rays to the right are long. */
    private static void paint(int run, Random random, StoneRings x, Plain p) {
        int kind = random.nextInt(4);
        for (int b = 0; b < p.height; b++) {
            bothPixel(run, x, p, 0, b, kind == 0 ? random.nextInt(256) : 255);
        }
        int[] shades = {random.nextInt(2), 1 + random.nextInt(4), 3 + random.nextInt(kind == 1 ? 60 : 12)};
        int[] line = LINES[random.nextInt(LINES.length)];
        int rows = random.nextBoolean() ? 1 : 5;
        for (int drawn = 0; drawn < 80; drawn++) {
            int a = drawn % p.width;
            int b = Math.max(0, Math.min(p.height - 1, (p.height - 1) / 2 - rows / 2 + drawn / 16 % rows));
            boolean asLine = kind >= 2 && random.nextInt(20) > 0;
            if (asLine || a > 0) {
                bothPixel(run, x, p, a, b, asLine ? line[a] : shades[random.nextInt(3)]);
            }
        }
    }

    private static void step(int run, Random random, StoneRings x, Plain p) {
        int a = pick(random, 9);
        int b = pick(random, 9);
        int c = pick(random, 20);
        int r = pick(random, 4);
        int o = pick(random, 4);
        int s = random.nextInt(30) == 0 ? pick(random, 22) : random.nextInt(6);
        boolean evened = random.nextBoolean();
        switch (random.nextInt(23)) {
            case 0 -> bothPixel(run, x, p, pick(random, 16), pick(random, 16), pick(random, 256));
            case 1 -> due(run, "middle(" + a + ")", () -> x.middle(a), a == 0 || a == 1 ? (Object) p.centre(a) : INDEX);
            case 2 -> {
                int dx = random.nextInt(13) - 6;
                int dy = random.nextInt(13) - 6;
                due(run, "ray(" + dx + ", " + dy + ")", () -> x.ray(dx, dy), p.ray(dx, dy));
            }
            case 3 -> due(run, "samples(" + a + ")", () -> x.samples(a), p.noRay(a) ? INDEX : (Object) p.samplesOf(a).length);
            case 4 -> due(run, "sample(" + a + ", " + c + ", " + evened + ")", () -> x.sample(a, c, evened), p.sample(a, c, evened));
            case 5 -> {
                int apart = random.nextInt(4) == 0 ? pick(random, 12) : 1 + random.nextInt(3);
                int high = random.nextInt(4) == 0 ? pick(random, 20) : random.nextInt(3);
                due(run, "rule(" + apart + ", " + high + ")", () -> { x.rule(apart, high); return "void"; }, p.rule(apart, high));
            }
            case 6 -> due(run, "rings(" + a + ")", () -> x.rings(a), p.noRay(a) ? INDEX : (Object) p.ringsOf(a).length);
            case 7 -> due(run, "ring(" + a + ", " + r + ", " + o + ")", () -> x.ring(a, r, o), p.ring(a, r, o));
            case 8 -> {
                int skip = random.nextInt(8) == 0 ? pick(random, 53) : random.nextInt(4);
                due(run, "join(" + a + ", " + b + ", " + skip + ")", () -> x.join(a, b, skip), p.join(a, b, skip));
            }
            case 9 -> due(run, "joined(" + r + ")", () -> x.joined(r), p.joined(r));
            case 10 -> {
                int length = random.nextInt(10) == 0 ? 100000 + random.nextInt(2) : pick(random, 100001);
                due(run, "back(" + a + ", " + r + ", " + length + ")", () -> x.back(a, r, length), p.back(a, r, length));
            }
            case 11 -> {
                int counted = random.nextInt(10) == 0 ? pick(random, 62) : random.nextInt(4);
                due(run, "tell(" + r + ", " + s + ", " + counted + ")", () -> { x.tell(r, s, counted); return "void"; }, p.tell(r, s, counted));
            }
            case 12 -> due(run, "may(" + r + ", " + s + ")", () -> x.may(r, s), p.may(r, s));
            case 13 -> due(run, "seen(" + r + ", " + o + ", " + s + ")", () -> x.seen(r, o, s), p.seen(r, o, s));
            case 14 -> due(run, "agree(" + r + ", " + o + ", " + a + ")", () -> x.agree(r, o, a % 3), p.compare(r, o, a % 3, true));
            case 15 -> due(run, "bias(" + r + ", " + o + ", " + a + ")", () -> x.bias(r, o, a % 3), p.compare(r, o, a % 3, false));
            case 16 -> due(run, "told(" + s + ")", () -> x.told(s), p.noStone(s) ? INDEX : (Object) p.toldOf(s));
            case 17 -> due(run, "right(" + r + ")", () -> x.right(r), p.noReader(r) ? INDEX : (Object) p.rightOf(r));
            case 18 -> due(run, "best(" + r + ")", () -> x.best(r), p.best(r));
            case 19 -> {
                int day = random.nextInt(5) == 0 ? pick(random, 367) : random.nextInt(4);
                int birthday = random.nextInt(5) == 0 ? pick(random, 367) : random.nextInt(4);
                due(run, "age(" + s + ", " + day + ", " + birthday + ")", () -> x.age(s, day, birthday), p.age(s, day, birthday));
            }
            case 20, 21 -> due(run, "twin(" + a + ", " + b + ")", () -> x.twin(a, b), p.twin(a, b));
            default -> due(run, "count(" + o + ")", () -> x.count(o), p.count(o));
        }
    }

    /** A part of all that can be asked, so that a change which no answer of its own call shows is seen too. */
    private static void askMuch(int run, StoneRings x, Plain p) {
        if (run % 3 == 1) {
            askReaders(run, x, p);
        } else {
            askRest(run, x, p);
        }
    }

    private static void askRays(int run, StoneRings x, Plain p) {
        for (int ray = 0; ray < p.rayCount; ray++) {
            int a = ray;
            int length = p.samplesOf(a).length;
            int rings = p.ringsOf(a).length;
            due(run, "samples(" + a + ")", () -> x.samples(a), length);
            due(run, "rings(" + a + ")", () -> x.rings(a), rings);
            for (int k = 0; k < 4 * (rings + 1); k++) {
                int at = k / 4;
                int what = k % 4;
                due(run, "ring(" + a + ", " + at + ", " + what + ")", () -> x.ring(a, at, what), p.ring(a, at, what));
            }
            for (int k = 0; k <= length; k++) {
                int at = k;
                boolean evened = (k + a) % 2 == 0;
                due(run, "sample(" + a + ", " + at + ", " + evened + ")", () -> x.sample(a, at, evened), p.sample(a, at, evened));
            }
        }
    }

    private static void askReaders(int run, StoneRings x, Plain p) {
        for (int k = 0; k < 80; k++) {
            int reader = k / 20;
            int stone = k % 20;
            due(run, "may(" + reader + ", " + stone + ")", () -> x.may(reader, stone), p.may(reader, stone));
            due(run, "seen(" + reader + ", " + reader + ", " + stone + ")", () -> x.seen(reader, reader, stone), p.seen(reader, reader, stone));
        }
    }

    private static void askRest(int run, StoneRings x, Plain p) {
        due(run, "middle(0)", () -> x.middle(0), p.centre(0));
        due(run, "middle(1)", () -> x.middle(1), p.centre(1));
        for (int k = -1; k < 9; k++) {
            int at = k;
            due(run, "joined(" + at + ")", () -> x.joined(at), p.joined(at));
            due(run, "count(" + at + ")", () -> x.count(at), p.count(at));
        }
    }

    /** Some pairs of rays joined at small skips, with the partners asked for at once. */
    private static void joinSome(int run, Random random, StoneRings x, Plain p) {
        for (int pair = 0; pair < 10; pair++) {
            int a = random.nextInt(p.rayCount);
            int b = random.nextInt(p.rayCount);
            int skip = random.nextInt(5);
            due(run, "join(" + a + ", " + b + ", " + skip + ")", () -> x.join(a, b, skip), p.join(a, b, skip));
            for (int k = 0; k <= p.latest.length; k++) {
                int at = k;
                due(run, "joined(" + at + ")", () -> x.joined(at), p.joined(at));
            }
        }
    }

    private static void oneRun(int run) {
        Random random = new Random(run);
        callsOfRun = 0;
        int width = random.nextInt(3) == 0 ? random.nextInt(20) - 1 : 16;
        int height = random.nextInt(3) == 0 ? random.nextInt(20) - 1 : 16;
        StoneRings x = new StoneRings(width, height);
        Plain p = new Plain(width, height);
        for (int k = random.nextInt(30); k > 0; k--) {
            step(run, random, x, p);
        }
        paint(run, random, x, p);
        int[][] wide = {{1, 0}, {5, 1}, {5, -1}, {5, 2}, {5, -2}, {2, 1}};
        for (int k = 0; k < 6; k++) {
            int[] d = wide[k];
            due(run, "ray(" + d[0] + ", " + d[1] + ")", () -> x.ray(d[0], d[1]), p.ray(d[0], d[1]));
        }
        int apart = 1 + random.nextInt(3);
        int high = random.nextInt(4);
        due(run, "rule(" + apart + ", " + high + ")", () -> { x.rule(apart, high); return "void"; }, p.rule(apart, high));
        if (run % 3 == 0) {
            askRays(run, x, p);
        }
        joinSome(run, random, x, p);
        for (int k = 0; k < 120; k++) {
            step(run, random, x, p);
        }
        askMuch(run, x, p);
    }

    private static void mustHaveMet(String what, int times) {
        if (times == 0) {
            wrong++;
            System.out.println("the runs never met " + what);
        }
    }

    public static void main(String[] args) {
        for (int run = 1; run <= 1500; run++) {
            oneRun(run);
        }
        mustHaveMet("a false ring", falseRings);
        mustHaveMet("a join with several ways of the least cost", joinsWithTies);
        mustHaveMet("rings put together", pairsPutTogether);
        mustHaveMet("two rays that are twins", twinsOfTwoRays);
        mustHaveMet("a ray with seven rings", mostRings >= 7 ? 1 : 0);
        System.out.println(calls + " calls, " + wrong + " wrong; false rings " + falseRings + ", most rings " + mostRings
                + ", joins with ties " + joinsWithTies + ", twins " + twinsOfTwoRays);
        if (wrong != 0) {
            System.exit(1);
        }
    }
}
