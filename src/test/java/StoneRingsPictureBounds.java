import java.util.Arrays;

/** The boundary cases of the picture, the rays, the rings and the joins, each under the words of the document. */
public final class StoneRingsPictureBounds extends StoneRingsChecks {
    private static int nearest(int side) {
        return side < 1 ? 1 : side > 16 ? 16 : side;
    }

    private static void sizes() {
        for (int side : new int[] {LEAST, -1, 0, 1, 2, 15, 16, 17, 18, MOST}) {
            int last = nearest(side) - 1;
            StoneRings wide = new StoneRings(side, 5);
            due("width " + side + ": the last pixel", wide.pixel(last, 4, 1), true);
            thrown("width " + side + ": behind the last pixel", wide, INDEX, o -> o.pixel(last + 1, 4, 1));
            thrown("width " + side + ": below the last pixel", wide, INDEX, o -> o.pixel(last, 5, 1));
            StoneRings high = new StoneRings(5, side);
            due("height " + side + ": the last pixel", high.pixel(4, last, 1), true);
            thrown("height " + side + ": below the last pixel", high, INDEX, o -> o.pixel(4, last + 1, 1));
            thrown("height " + side + ": behind the last pixel", high, INDEX, o -> o.pixel(5, last, 1));
        }
    }

    private static void newObject() {
        StoneRings x = new StoneRings(16, 16);
        for (int what = 0; what < 4; what++) {
            due("count(" + what + ")", x.count(what), 0);
        }
        due("middle(0)", x.middle(0), NONE);
        due("middle(1)", x.middle(1), NONE);
        thrown("joined(0)", x, STATE, o -> o.joined(0));
        thrown("samples(0)", x, INDEX, o -> o.samples(0));
        for (int k = 0; k < 4; k++) {
            due("right(" + k + ")", x.right(k), 0);
            due("best(" + k + ")", x.best(k), k);
        }
        for (int stone = 0; stone < 20; stone++) {
            due("told(" + stone + ")", x.told(stone), NONE);
        }
    }

    private static void zeroAtFirst() {
        StoneRings x = new StoneRings(16, 16);
        for (int k = 0; k < 256; k++) {
            due("pixel(" + k % 16 + ", " + k / 16 + ", 0)", x.pixel(k % 16, k / 16, 0), false);
        }
        due("count(3)", x.count(3), 0);
    }

    private static void rightAndDown() {
        StoneRings x = new StoneRings(3, 3);
        x.pixel(1, 1, 100);
        x.pixel(2, 1, 4);
        x.pixel(0, 1, 3);
        x.pixel(1, 2, 2);
        x.pixel(1, 0, 1);
        int[][] ways = {{1, 0, 4}, {-1, 0, 3}, {0, 1, 2}, {0, -1, 1}};
        for (int[] w : ways) {
            int ray = x.ray(w[0], w[1]);
            due("sample(" + ray + ", 0)", x.sample(ray, 0, false), 100);
            due("sample(" + ray + ", 1)", x.sample(ray, 1, false), w[2]);
        }
    }

    private static StoneRings full() {
        StoneRings x = new StoneRings(16, 16);
        for (int k = 0; k < 256; k++) {
            x.pixel(k % 16, k / 16, 255);
        }
        return x;
    }

    private static void fullPicture() {
        StoneRings x = full();
        due("count(3)", x.count(3), 65280);
        due("middle(0)", x.middle(0), 7);
        due("middle(1)", x.middle(1), 7);
        due("ray(1, 0)", x.ray(1, 0), 0);
        x.rule(1, 0);
        due("samples(0)", x.samples(0), 9);
        due("rings(0)", x.rings(0), 0);
        for (int k = 0; k < 9; k++) {
            due("sample(0, " + k + ", false)", x.sample(0, k, false), 255);
            due("sample(0, " + k + ", true)", x.sample(0, k, true), 255);
        }
        due("pixel(15, 15, 255)", x.pixel(15, 15, 255), false);
        due("pixel(15, 15, 254)", x.pixel(15, 15, 254), true);
        due("count(3)", x.count(3), 65279);
    }

    private static void another() {
        StoneRings x = new StoneRings(2, 2);
        int[] values = {0, 1, 1, 0, 0, 255, 255, 254, 255, 0};
        boolean[] others = {false, true, false, true, false, true, false, true, true, true};
        for (int k = 0; k < values.length; k++) {
            due("pixel(1, 0, " + values[k] + "), call " + k, x.pixel(1, 0, values[k]), others[k]);
            due("count(3)", x.count(3), values[k]);
        }
        x.pixel(1, 0, 7);
        due("pixel(0, 1, 7): that of another place", x.pixel(0, 1, 7), true);
    }

    private static void middleFloor() {
        StoneRings x = new StoneRings(16, 16);
        x.pixel(0, 0, 254);
        x.pixel(1, 0, 255);
        due("middle(0), 255 by 509", x.middle(0), 0);
        x.pixel(2, 0, 253);
        due("middle(0), 761 by 762", x.middle(0), 0);
        x.pixel(2, 0, 254);
        due("middle(0), 763 by 763", x.middle(0), 1);
        StoneRings y = new StoneRings(16, 16);
        y.pixel(0, 0, 254);
        y.pixel(0, 1, 255);
        y.pixel(0, 2, 253);
        due("middle(1), 761 by 762", y.middle(1), 0);
        y.pixel(0, 2, 254);
        due("middle(1), 763 by 763", y.middle(1), 1);
    }

    private static void middleCorners() {
        for (int corner = 0; corner < 4; corner++) {
            int x = corner % 2 * 15;
            int y = corner / 2 * 15;
            StoneRings one = new StoneRings(16, 16);
            one.pixel(x, y, 1);
            due("middle(0) of " + x + ", " + y, one.middle(0), x);
            due("middle(1) of " + x + ", " + y, one.middle(1), y);
        }
    }

    private static void noMiddle() {
        StoneRings x = new StoneRings(3, 3);
        due("middle(0) of nothing", x.middle(0), NONE);
        due("middle(1) of nothing", x.middle(1), NONE);
        x.pixel(0, 0, 1);
        due("middle(0) of the least pixel at 0", x.middle(0), 0);
        due("middle(1) of the least pixel at 0", x.middle(1), 0);
        x.pixel(2, 2, 255);
        x.pixel(0, 0, 0);
        due("middle(0) of the other one", x.middle(0), 2);
        x.pixel(2, 2, 0);
        due("middle(0) of nothing again", x.middle(0), NONE);
        due("middle(1) of nothing again", x.middle(1), NONE);
    }

    private static void raysAsTold() {
        StoneRings x = new StoneRings(16, 16);
        x.pixel(5, 9, 1);
        int[][] told = {{1, 0, 11}, {-1, 0, 6}, {0, 1, 7}, {0, -1, 10}, {1, 0, 11}, {-5, 0, 6}, {0, 5, 7}, {0, -5, 10}};
        for (int k = 0; k < 8; k++) {
            due("count(0)", x.count(0), k);
            due("ray(" + told[k][0] + ", " + told[k][1] + ")", x.ray(told[k][0], told[k][1]), k);
        }
        for (int k = 0; k < 8; k++) {
            due("samples(" + k + ")", x.samples(k), told[k][2]);
        }
        thrown("a ninth ray", x, STATE, o -> o.ray(1, 0));
        due("count(0)", x.count(0), 8);
        due("samples(7)", x.samples(7), told[7][2]);
    }

    /** Each pixel is 16 * y + x, so that a sample tells where it was taken; the middle is 7, 10. */
    private static StoneRings map() {
        StoneRings x = new StoneRings(16, 16);
        for (int k = 0; k < 256; k++) {
            x.pixel(k % 16, k / 16, k);
        }
        due("middle(0) of the map", x.middle(0), 7);
        due("middle(1) of the map", x.middle(1), 10);
        return x;
    }

    private static void along(StoneRings x, int dx, int dy, int[] xs, int[] ys) {
        int ray = x.ray(dx, dy);
        String way = "ray(" + dx + ", " + dy + "): ";
        int length = x.samples(ray);
        due(way + "samples", length, xs.length);
        for (int k = 0; k < xs.length && k < length; k++) {
            due(way + "sample " + k, x.sample(ray, k, false), 16 * ys[k] + xs[k]);
        }
    }

    private static void places() {
        StoneRings x = map();
        int[] right = {7, 8, 9, 10, 11, 12, 13, 14, 15};
        int[] left = {7, 6, 5, 4, 3, 2, 1, 0};
        int[] up = {10, 9, 8, 7, 6, 5, 4, 3, 2, 1, 0};
        int[] down = {10, 11, 12, 13, 14, 15};
        along(x, 2, 1, right, new int[] {10, 11, 11, 12, 12, 13, 13, 14, 14});
        along(x, 2, -1, right, new int[] {10, 10, 9, 9, 8, 8, 7, 7, 6});
        along(x, -1, 2, new int[] {7, 7, 6, 6, 5, 5}, down);
        along(x, 1, -2, new int[] {7, 8, 8, 9, 9, 10, 10, 11, 11, 12, 12}, up);
        along(x, 5, -2, right, new int[] {10, 10, 9, 9, 8, 8, 8, 7, 7});
        along(x, -4, -3, left, new int[] {10, 9, 9, 8, 7, 6, 6, 5});
        along(x, -5, 5, new int[] {7, 6, 5, 4, 3, 2}, down);
        along(x, 0, -3, new int[] {7, 7, 7, 7, 7, 7, 7, 7, 7, 7, 7}, up);
    }

    private static void lengths(StoneRings x, int[][] rays) {
        for (int[] r : rays) {
            int ray = x.ray(r[0], r[1]);
            int length = r[2];
            due("ray(" + r[0] + ", " + r[1] + "): samples", x.samples(ray), length);
            thrown("ray(" + r[0] + ", " + r[1] + "): the last sample", x, null, o -> o.sample(ray, length - 1, true));
            thrown("ray(" + r[0] + ", " + r[1] + "): behind it", x, INDEX, o -> o.sample(ray, length, true));
            thrown("ray(" + r[0] + ", " + r[1] + "): before the first", x, INDEX, o -> o.sample(ray, -1, true));
        }
    }

    private static void onThePicture() {
        StoneRings corner = new StoneRings(16, 16);
        corner.pixel(15, 15, 1);
        lengths(corner, new int[][] {{1, 0, 1}, {-1, 0, 16}, {0, 1, 1}, {0, -1, 16}, {-1, -1, 16}, {-5, 1, 3}, {-5, -1, 16}, {1, -5, 3}});
        StoneRings first = new StoneRings(16, 16);
        first.pixel(0, 0, 1);
        lengths(first, new int[][] {{1, 0, 16}, {-1, 0, 1}, {0, 1, 16}, {0, -1, 1}, {1, 1, 16}, {5, -1, 3}, {-1, 5, 3}, {5, 4, 16}});
        StoneRings low = new StoneRings(16, 2);
        low.pixel(0, 0, 1);
        lengths(low, new int[][] {{1, 0, 16}, {5, 1, 8}, {5, 2, 4}, {1, 1, 2}, {0, 1, 2}});
        StoneRings narrow = new StoneRings(2, 16);
        narrow.pixel(1, 15, 1);
        lengths(narrow, new int[][] {{-1, 0, 2}, {0, -1, 16}, {-1, -5, 8}, {1, -5, 3}});
        StoneRings least = new StoneRings(1, 1);
        least.pixel(0, 0, 1);
        lengths(least, new int[][] {{1, 0, 1}, {-1, 0, 1}, {0, 1, 1}, {0, -1, 1}, {5, 5, 1}, {-5, -5, 1}, {5, -1, 1}, {-1, 5, 1}});
    }

    private static void noSamples() {
        StoneRings x = new StoneRings(16, 16);
        x.ray(1, 0);
        x.ray(-5, 3);
        for (int round = 0; round < 2; round++) {
            for (int ray = 0; ray < 2; ray++) {
                int a = ray;
                due("samples(" + a + ")", x.samples(a), 0);
                due("rings(" + a + ")", x.rings(a), 0);
                thrown("sample(" + a + ", 0, false)", x, INDEX, o -> o.sample(a, 0, false));
                thrown("sample(" + a + ", 0, true)", x, INDEX, o -> o.sample(a, 0, true));
                thrown("ring(" + a + ", 0, 0)", x, INDEX, o -> o.ring(a, 0, 0));
                thrown("back(" + a + ", 0, 1)", x, INDEX, o -> o.back(a, 0, 1));
            }
            joinsAs(x, 0, 1, 50, 0);
            due("twin(0, 1)", x.twin(0, 1), true);
            x.pixel(8, 8, 200);
            due("samples(0) with a middle", x.samples(0), 8);
            x.pixel(8, 8, 0);
        }
    }

    private static void evensAre(StoneRings x, int from, int... evens) {
        for (int k = 0; k < evens.length; k++) {
            due("sample(0, " + (from + k) + ", true)", x.sample(0, from + k, true), evens[k]);
        }
    }

    private static void evenedEnds() {
        StoneRings x = line(40, 0, 0, 0, 0, 0, 0, 0, 0, 0, 0, 0, 0, 0, 0, 40);
        evensAre(x, 0, 30, 10, 0);
        evensAre(x, 13, 0, 10, 30);
        StoneRings two = new StoneRings(2, 1);
        two.pixel(0, 0, 10);
        two.pixel(1, 0, 20);
        two.ray(1, 0);
        evensAre(two, 0, 13, 18);
        StoneRings one = new StoneRings(1, 1);
        one.pixel(0, 0, 255);
        one.ray(1, 0);
        evensAre(one, 0, 255);
        one.pixel(0, 0, 1);
        evensAre(one, 0, 1);
    }

    private static void evenedFloor() {
        evensAre(line(0, 0, 1, 0, 0, 2, 0, 0, 3, 0, 0, 5, 0, 0, 6, 0), 0, 0, 0, 1, 0, 1, 1, 1, 1, 2, 1, 1, 3, 1, 2, 3, 2);
    }

    private static void asTheyAre() {
        StoneRings x = new StoneRings(16, 1);
        x.ray(1, 0);
        x.pixel(4, 0, 9);
        due("samples(0) of a ray told before the pixel", x.samples(0), 12);
        due("sample(0, 0, false)", x.sample(0, 0, false), 9);
        x.pixel(4, 0, 8);
        due("sample(0, 0, false), another pixel", x.sample(0, 0, false), 8);
        x.pixel(0, 0, 255);
        due("samples(0) from another middle", x.samples(0), 16);
        due("sample(0, 4, false) from another middle", x.sample(0, 4, false), 8);
        ringsAt("by the rule at first", x);
        x.rule(2, 4);
        ringsAt("by another rule", x, 4);
        x.pixel(4, 0, 10);
        x.rule(2, 5);
        ringsAt("by another pixel", x, 4);
        x.rule(5, 5);
        ringsAt("by another rule again", x);
    }

    private static void ruleAtFirst() {
        ringsAt("just 2 apart and 5 high", line(0, 0, 9, 0, 0, 0, 0, 0, 0, 0, 0, 0, 0, 0, 0, 0), 2);
        ringsAt("2 apart and 4 high", line(0, 0, 8, 0, 0, 0, 0, 0, 0, 0, 0, 0, 0, 0, 0, 0));
        ringsAt("1 apart and 7 high", line(0, 30, 0, 0, 0, 0, 0, 0, 0, 0, 0, 0, 0, 0, 0, 0));
    }

    private static StoneRings by(StoneRings x, int apart, int high) {
        x.rule(apart, high);
        return x;
    }

    private static void firstPlace() {
        StoneRings one = by(line(0, 30, 0, 0, 0, 0, 0, 0, 0, 0, 0, 0, 0, 0, 0, 0), 1, 5);
        ringsAt("a top at 1", one, 1);
        StoneRings zero = by(line(30, 0, 0, 0, 0, 0, 0, 0, 0, 0, 0, 0, 0, 0, 0, 0), 1, 0);
        ringsAt("the greatest at 0", zero);
    }

    private static void lastPlace() {
        ringsAt("a top at 14", line(12, 0, 0, 0, 0, 0, 0, 0, 0, 0, 0, 0, 0, 0, 12, 0), 14);
        ringsAt("a flat one at 14 and 15", line(12, 0, 0, 0, 0, 0, 0, 0, 0, 0, 0, 0, 0, 12, 12, 12), 14);
        ringsAt("the greatest at 15", by(line(0, 0, 0, 0, 0, 0, 0, 0, 0, 0, 0, 0, 0, 0, 0, 12), 1, 0));
    }

    /** Samples 1, 10, 0 with evened 3, 5, 3. */
    private static StoneRings threeSamples() {
        StoneRings x = new StoneRings(3, 1);
        x.pixel(0, 0, 1);
        x.pixel(1, 0, 10);
        x.ray(1, 0);
        due("samples(0)", x.samples(0), 3);
        return x;
    }

    private static void shortRays() {
        StoneRings one = new StoneRings(1, 1);
        one.pixel(0, 0, 200);
        one.ray(1, 0);
        ringsAt("one sample", by(one, 1, 0));
        StoneRings two = new StoneRings(2, 1);
        two.pixel(0, 0, 1);
        two.pixel(1, 0, 200);
        two.ray(1, 0);
        due("samples(0)", two.samples(0), 2);
        ringsAt("two samples, the second one greater", by(two, 1, 0));
        ringsAt("three samples, 1 apart and 2 high", by(threeSamples(), 1, 2), 1);
        ringsAt("three samples, 1 apart and less than 3 high", by(threeSamples(), 1, 3));
        ringsAt("three samples, less than 2 apart", by(threeSamples(), 2, 0));
    }

    private static void aboveBefore() {
        ringsAt("a flat top counts where it begins, and there alone",
                by(line(0, 0, 0, 0, 20, 20, 20, 20, 0, 0, 0, 0, 0, 0, 0, 0), 1, 0), 5);
        ringsAt("all the same", by(line(9, 9, 9, 9, 9, 9, 9, 9, 9, 9, 9, 9, 9, 9, 9, 9), 1, 0));
    }

    private static void notBelowBehind() {
        ringsAt("as high as the next one", by(line(0, 0, 0, 20, 20, 20, 20, 0, 0, 0, 0, 0, 0, 0, 0, 0), 1, 0), 4);
        ringsAt("1 below the next one", by(line(0, 0, 0, 20, 20, 21, 22, 22, 22, 22, 0, 0, 0, 0, 0, 0), 1, 0), 6);
        ringsAt("1 above the next one", by(line(0, 0, 0, 20, 20, 20, 19, 19, 19, 0, 0, 0, 0, 0, 0, 0), 1, 0), 4);
    }

    private static void apart() {
        ringsAt("5 behind 0, then 2, then 5", by(twoRays(), 2, 2), 5, 7, 12);
        ringsAt("2 is less than 3", by(twoRays(), 3, 2), 5, 12);
        ringsAt("12 is 7 behind 5: what is no ring does not count as the one before", by(twoRays(), 7, 2), 7);
        ringsAt("5, which is just 5 behind 0", by(twoRays(), 5, 2), 5, 12);
        ringsAt("5 is less than 6, and 5 behind 7 too", by(twoRays(), 6, 2), 7);
        ringsAt("7 is less than 8", by(twoRays(), 8, 2), 12);
        int[] ten = {0, 0, 0, 0, 0, 0, 0, 0, 0, 0, 30, 0, 0, 0, 0, 0};
        int[] nine = {0, 0, 0, 0, 0, 0, 0, 0, 0, 30, 0, 0, 0, 0, 0, 0};
        ringsAt("10, the greatest APART", by(line(ten), 10, 5), 10);
        ringsAt("9 is less than the greatest APART", by(line(nine), 10, 5));
        ringsAt("1, the least APART", by(line(0, 30, 0, 0, 0, 0, 0, 0, 0, 0, 0, 0, 0, 0, 0, 0), 1, 5), 1);
    }

    private static void high() {
        ringsAt("5 more is as high as 5", by(line(0, 0, 9, 0, 0, 0, 0, 0, 0, 0, 0, 0, 0, 0, 0, 0), 2, 5), 2);
        ringsAt("5 more is less than 6", by(line(0, 0, 9, 0, 0, 0, 0, 0, 0, 0, 0, 0, 0, 0, 0, 0), 2, 6));
        ringsAt("255 more, the greatest HIGH", by(line(0, 0, 0, 255, 255, 255, 0, 0, 0, 0, 0, 0, 0, 0, 0, 0), 2, 255), 4);
        ringsAt("254 more is less than 255", by(line(0, 0, 0, 254, 254, 254, 0, 0, 0, 0, 0, 0, 0, 0, 0, 0), 2, 255));
        ringsAt("1 more, with HIGH 0", by(line(0, 0, 0, 1, 1, 1, 0, 0, 0, 0, 0, 0, 0, 0, 0, 0), 1, 0), 3);
    }

    private static void leastFrom() {
        int[] rising = {0, 10, 20, 20, 0, 0, 0, 0, 0, 0, 0, 0, 0, 0, 0, 0};
        ringsAt("18 is 15 more than 3 at 0", by(line(rising), 2, 15), 2);
        ringsAt("18 is less than 16 more than 3 at 0", by(line(rising), 2, 16));
        ringsAt("8 at 7 is 2 more than 6, the least from 5 on", by(twoRays(), 2, 2), 5, 7, 12);
        ringsAt("8 at 7 is less than 3 more than 6, though there was 0 before 5", by(twoRays(), 2, 3), 5, 12);
        ringsAt("8 at 5 is 8 more than 0, and 12 is more than that above 2", by(twoRays(), 2, 8), 5, 12);
        ringsAt("8 is less than 9 more, 12 is 12 more than 0", by(twoRays(), 2, 9), 12);
        ringsAt("12 is 12 more than 0", by(twoRays(), 2, 12), 12);
        ringsAt("12 is less than 13 more", by(twoRays(), 2, 13));
        int[] deep = {40, 40, 0, 0, 40, 40, 40, 20, 20, 40, 40, 40, 40, 40, 40, 0};
        ringsAt("40 at 10 is 15 more than 25, the least from 5 on, though 0 was before", by(line(deep), 2, 15), 5, 10);
        ringsAt("40 at 10 is less than 16 more than 25", by(line(deep), 2, 16), 5);
    }

    private static void mostRings() {
        ringsAt("seven at 1, 3 .. 13", sevenRings(), 1, 3, 5, 7, 9, 11, 13);
        // Evened 6 22 28 27 28 27 .. 27 28 28.
        StoneRings late = by(line(0, 25, 36, 13, 46, 5, 52, 1, 54, 1, 52, 5, 46, 13, 36, 25), 2, 1);
        ringsAt("seven at 2, 4 .. 14", late, 2, 4, 6, 8, 10, 12, 14);
        StoneRings x = sevenRings();
        thrown("ring(0, 6, 0)", x, null, o -> o.ring(0, 6, 0));
        thrown("ring(0, 7, 0)", x, INDEX, o -> o.ring(0, 7, 0));
        thrown("back(0, 6, 0)", x, null, o -> o.back(0, 6, 0));
        thrown("back(0, 7, 0)", x, INDEX, o -> o.back(0, 7, 0));
    }

    private static void widths() {
        StoneRings x = twoRays();
        int[] widths = {5, 2, 5};
        for (int k = 0; k < 3; k++) {
            due("ring(0, " + k + ", 2)", x.ring(0, k, 2), widths[k]);
        }
        x.rule(3, 2);
        due("ring(0, 1, 2): 12 is behind 5 now", x.ring(0, 1, 2), 7);
        x.rule(8, 2);
        due("ring(0, 0, 2): 12 is behind 0 now", x.ring(0, 0, 2), 12);
        due("ring(0, 0, 2) at place 1", sevenRings().ring(0, 0, 2), 1);
    }

    private static void ringsFalse(String text, StoneRings x, int[] places, int... falseOnes) {
        ringsAt(text, x, places);
        for (int k = 0; k < places.length; k++) {
            due(text + ": ring(0, " + k + ", 3)", x.ring(0, k, 3), falseOnes[k]);
        }
    }

    private static void falseEnds() {
        StoneRings first = by(line(0, 30, 0, 0, 0, 0, 0, 30, 0, 0, 0, 0, 0, 30, 0, 0), 1, 5);
        ringsFalse("1 wide, but none before it", first, new int[] {1, 7, 13}, 0, 0, 0);
        StoneRings last = by(line(13, 0, 0, 0, 6, 12, 0, 12, 6, 0, 0, 0, 0, 0, 0, 0), 2, 2);
        ringsFalse("2 wide behind 5, but none behind it", last, new int[] {5, 7}, 0, 0);
        ringsFalse("the only one", by(twoRays(), 8, 2), new int[] {12}, 0);
    }

    private static void falseNarrow() {
        ringsFalse("twice 2 is below 5 and 5", twoRays(), new int[] {5, 7, 12}, 0, 1, 0);
        StoneRings behind = by(line(13, 0, 0, 0, 6, 12, 0, 12, 6, 0, 12, 12, 12, 12, 12, 12), 2, 2);
        ringsFalse("twice 2 is below 5, not below 4 behind it", behind, new int[] {5, 7, 11}, 0, 0, 0);
        StoneRings before = by(line(0, 0, 0, 6, 12, 0, 12, 6, 0, 0, 12, 12, 12, 12, 12, 12), 2, 2);
        ringsFalse("twice 2 is below 5 behind it, not below 4", before, new int[] {4, 6, 11}, 0, 0, 0);
    }

    /** Rings at these places of ray 0, to the right, and of ray 1, which has no pixel but the middle with it. */
    private static StoneRings bumps(int[] ones, int[] others) {
        int[] values = new int[16];
        for (int place : ones) {
            values[place] = 12;
        }
        StoneRings x = line(values);
        x.ray(2, 1);
        for (int place : others) {
            x.pixel(place, 7 + (place + 1) / 2, 12);
        }
        x.rule(1, 2);
        ringsAt("of ray 0", x, ones);
        due("rings(1)", x.rings(1), others.length);
        for (int k = 0; k < others.length; k++) {
            due("ring(1, " + k + ", 0)", x.ring(1, k, 0), others[k]);
        }
        return x;
    }

    private static int[] at(int... places) {
        return places;
    }

    private static void oneWithOne() {
        joinsAs(bumps(at(4, 10), at(7)), 0, 1, 50, 53, 0, NONE);
        joinsAs(bumps(at(7), at(4, 10)), 0, 1, 50, 53, 0);
        joinsAs(bumps(at(4, 10), at(8)), 0, 1, 50, 52, NONE, 0);
        joinsAs(bumps(at(3, 6, 9), at(3, 9)), 0, 1, 50, 50, 0, NONE, 1);
        joinsAs(bumps(at(2, 6, 10), at(5, 9, 13)), 0, 1, 50, 9, 0, 1, 2);
        joinsAs(bumps(at(2, 6, 10), at(5, 9, 13)), 0, 1, 1, 4, NONE, 0, 1);
    }

    private static void withoutSign() {
        StoneRings x = bumps(at(4), at(9));
        joinsAs(x, 0, 1, 50, 5, 0);
        joinsAs(x, 1, 0, 50, 5, 0);
        joinsAs(x, 0, 0, 50, 0, 0);
        joinsAs(bumps(at(1), at(14)), 0, 1, 50, 13, 0);
        joinsAs(bumps(at(14), at(1)), 0, 1, 50, 13, 0);
    }

    private static void skips() {
        StoneRings none = bumps(at(3, 6, 9), at());
        joinsAs(none, 0, 1, 7, 21, NONE, NONE, NONE);
        joinsAs(none, 1, 0, 7, 21);
        joinsAs(none, 0, 1, 50, 150, NONE, NONE, NONE);
        joinsAs(none, 0, 1, 0, 0, NONE, NONE, NONE);
        joinsAs(none, 1, 1, 50, 0);
        StoneRings far = bumps(at(3), at(14));
        joinsAs(far, 0, 1, 6, 11, 0);
        joinsAs(far, 0, 1, 5, 10, NONE);
    }

    private static void mostJoined() {
        StoneRings x = sevenRings();
        x.ray(-1, 0);
        joinsAs(x, 0, 1, 50, 0, 0, 1, 2, 3, 4, 5, 6);
        joinsAs(x, 0, 1, 0, 0, 0, 1, 2, 3, 4, 5, 6);
        joinsAs(x, 0, 2, 50, 350, NONE, NONE, NONE, NONE, NONE, NONE, NONE);
        joinsAs(x, 2, 0, 50, 350);
        joinsAs(x, 2, 2, 50, 0);
    }

    private static void puttingTogetherFirst() {
        joinsAs(bumps(at(4), at(10)), 0, 1, 3, 6, 0);
        joinsAs(bumps(at(4), at(10)), 0, 1, 2, 4, NONE);
        joinsAs(bumps(at(5), at(2, 8)), 0, 1, 50, 53, 0);
        joinsAs(bumps(at(2, 8), at(5)), 0, 1, 50, 53, 0, NONE);
        joinsAs(bumps(at(2, 8), at(5)), 0, 1, 2, 5, 0, NONE);
    }

    private static void leavingOutTheFirst() {
        joinsAs(bumps(at(5), at(1, 7)), 0, 1, 1, 3, NONE);
        joinsAs(bumps(at(1, 7), at(5)), 0, 1, 1, 3, NONE, 0);
        joinsAs(bumps(at(5), at(1, 5)), 0, 1, 0, 0, NONE);
        joinsAs(bumps(at(1, 5), at(5)), 0, 1, 0, 0, NONE, 0);
    }

    private static void latestJoin() {
        StoneRings x = bumps(at(3, 6, 9), at(6));
        joinsAs(x, 0, 1, 5, 10, NONE, 0, NONE);
        joinsAs(x, 1, 0, 5, 10, 1);
        x.ray(-1, 0);
        joinsAs(x, 2, 0, 5, 15);
        thrown("joined(0): the latest join had no ring", x, INDEX, o -> o.joined(0));
        joinsAs(x, 0, 1, 5, 10, NONE, 0, NONE);
        thrown("join(0, 1, 51)", x, ARGUMENT, o -> o.join(0, 1, 51));
        thrown("join(1, 3, 5)", x, INDEX, o -> o.join(1, 3, 5));
        due("joined(1) behind refused joins", x.joined(1), 0);
        due("joined(2) behind refused joins", x.joined(2), NONE);
    }

    private static void ringsThen() {
        StoneRings x = bumps(at(3, 6, 9), at(6));
        x.join(0, 1, 5);
        x.rule(10, 255);
        due("rings(0) now", x.rings(0), 0);
        due("joined(1) then", x.joined(1), 0);
        due("joined(2) then", x.joined(2), NONE);
        thrown("joined(3)", x, INDEX, o -> o.joined(3));
        x.rule(1, 2);
        x.pixel(12, 7, 12);
        due("rings(0) now", x.rings(0), 4);
        thrown("joined(3), which is a ring now", x, INDEX, o -> o.joined(3));
        due("joined(1) then", x.joined(1), 0);
        x.join(0, 1, 5);
        due("joined(3) behind another join", x.joined(3), NONE);
    }

    private static void lengthsBack(StoneRings x, int[][] lengths) {
        for (int[] l : lengths) {
            due("back(0, 0, " + l[0] + ")", x.back(0, 0, l[0]), l[1]);
        }
    }

    private static void lengthAtRings() {
        lengthsBack(bumps(at(14), at()), new int[][] {{0, 0}, {1, 0}, {2, 1}, {15, 14}, {16, 14}, {99999, 93332}, {100000, 93333}});
        lengthsBack(bumps(at(1), at()), new int[][] {{0, 0}, {14, 0}, {15, 1}, {29, 1}, {30, 2}, {100000, 6666}});
        StoneRings three = by(threeSamples(), 1, 0);
        lengthsBack(three, new int[][] {{0, 0}, {1, 0}, {2, 1}, {3, 1}, {100000, 50000}});
    }

    private static StoneRings fork(int... values) {
        StoneRings x = new StoneRings(16, 16);
        for (int y = 0; y < 16; y++) {
            x.pixel(0, y, 255);
        }
        x.ray(2, 1);
        x.ray(2, -1);
        x.ray(1, 0);
        row(x, 7, 0, values);
        return x;
    }

    private static void twins() {
        StoneRings x = fork(255, 0, 0, 0, 0, 0, 0, 0, 0, 0, 0, 0, 0, 0, 0, 0);
        due("middle(1)", x.middle(1), 7);
        due("samples(0)", x.samples(0), 16);
        due("samples(2)", x.samples(2), 16);
        due("twin(0, 2), each the same", x.twin(0, 2), true);
        due("twin(2, 0), each the same", x.twin(2, 0), true);
        x.pixel(15, 7, 1);
        due("twin(0, 2), the last one is another", x.twin(0, 2), false);
        x.pixel(15, 15, 1);
        due("twin(0, 2), the last one is the same again", x.twin(0, 2), true);
        x.pixel(1, 7, 1);
        due("twin(0, 2), that at 1 is another", x.twin(0, 2), false);
        due("twin(0, 0), itself", x.twin(0, 0), true);
        StoneRings shorter = new StoneRings(16, 8);
        shorter.pixel(0, 4, 200);
        shorter.ray(1, 0);
        shorter.ray(-1, 0);
        shorter.ray(2, 1);
        shorter.ray(0, 1);
        shorter.ray(0, -1);
        int[] lengths = {16, 1, 7, 4, 5};
        for (int ray = 0; ray < lengths.length; ray++) {
            due("samples(" + ray + ")", shorter.samples(ray), lengths[ray]);
            for (int other = 0; other < lengths.length; other++) {
                due("twin(" + ray + ", " + other + "), 0 behind the middle", shorter.twin(ray, other), ray == other);
            }
        }
    }

    /** 256 pixels, 8 rays, 80 counts, 164 joins and 4 counts are 512 calls. */
    private static void lastCalls() {
        StoneRings x = full();
        for (int k = 0; k < 8; k++) {
            due("ray " + k, x.ray(1, k - 4), k);
        }
        for (int k = 0; k < 80; k++) {
            x.tell(k / 20, k % 20, 60);
        }
        for (int k = 0; k < 164; k++) {
            due("join", x.join(k % 8, k / 8 % 8, 50), 0);
        }
        due("call 509: count(0)", x.count(0), 8);
        due("call 510: count(1)", x.count(1), 20);
        due("call 511: count(2)", x.count(2), 80);
        due("call 512: count(3)", x.count(3), 65280);
    }

    private static void onlyAsked() {
        StoneRings x = used();
        Call[] questions = {
            o -> o.middle(0), o -> o.samples(0), o -> o.sample(0, 15, true), o -> o.rings(7), o -> o.ring(0, 2, 3),
            o -> o.joined(0), o -> o.back(0, 2, 100000), o -> o.may(2, 19), o -> o.seen(0, 3, 19), o -> o.agree(0, 1, 0),
            o -> o.bias(0, 1, 1), o -> o.told(0), o -> o.right(0), o -> o.best(3), o -> o.age(0, 0, 364),
            o -> o.twin(0, 7), o -> o.twin(1, 6), o -> o.count(4), o -> o.rings(1), o -> o.samples(2),
        };
        Arrays.stream(questions).forEach(question -> question.on(x));
        if (!state(x).equals(state(used()))) {
            fail("a call that only asks changed something");
        }
    }

    private static void picture() {
        sentence("1: WIDTH and HEIGHT the nearest of 1 .. 16", StoneRingsPictureBounds::sizes);
        sentence("1: A new object: nothing told, nothing painted, no join", StoneRingsPictureBounds::newObject);
        sentence("THE PICTURE: 0 at first", StoneRingsPictureBounds::zeroAtFirst);
        sentence("THE PICTURE: x to the right, y down", StoneRingsPictureBounds::rightAndDown);
        sentence("THE PICTURE has WIDTH by HEIGHT pixels 0 .. 255: all of them 255", StoneRingsPictureBounds::fullPicture);
        sentence("2: whether it is another one", StoneRingsPictureBounds::another);
        sentence("THE MIDDLE is x = FLOOR(..), y likewise", StoneRingsPictureBounds::middleFloor);
        sentence("THE MIDDLE: in each corner", StoneRingsPictureBounds::middleCorners);
        sentence("THE MIDDLE: there is none if all are 0", StoneRingsPictureBounds::noMiddle);
    }

    private static void rays() {
        sentence("RAYS 0 .. 7 (as they are told); 4: its number; there are 8", StoneRingsPictureBounds::raysAsTold);
        sentence("SAMPLE i: n the greater size of both, FLOOR((2 * dx * i + n) / (2 * n))", StoneRingsPictureBounds::places);
        sentence("SAMPLE: as long as these are on THE PICTURE", StoneRingsPictureBounds::onThePicture);
        sentence("SAMPLE: without a MIDDLE there are none", StoneRingsPictureBounds::noSamples);
        sentence("EVENED: SAMPLE k standing for one that there is not", StoneRingsPictureBounds::evenedEnds);
        sentence("EVENED k is FLOOR((.. + 2) / 4)", StoneRingsPictureBounds::evenedFloor);
        sentence("All is by THE PICTURE and the RULE as they are", StoneRingsPictureBounds::asTheyAre);
        sentence("22: as many SAMPLES, each the same", StoneRingsPictureBounds::twins);
    }

    private static void rings() {
        sentence("RINGS: APART (2 at first) and HIGH (5 at first)", StoneRingsPictureBounds::ruleAtFirst);
        sentence("RINGS: From place 1", StoneRingsPictureBounds::firstPlace);
        sentence("RINGS: up to the last but one", StoneRingsPictureBounds::lastPlace);
        sentence("RINGS: From place 1 up to the last but one, on one to three SAMPLES", StoneRingsPictureBounds::shortRays);
        sentence("RINGS: EVENED k is above EVENED k - 1", StoneRingsPictureBounds::aboveBefore);
        sentence("RINGS: and not below EVENED k + 1", StoneRingsPictureBounds::notBelowBehind);
        sentence("RINGS: k is APART or more behind the RING before (behind 0 for the first one)", StoneRingsPictureBounds::apart);
        sentence("RINGS: EVENED k is at least HIGH more", StoneRingsPictureBounds::high);
        sentence("RINGS: the least EVENED of the places from the RING before (from 0) up to k", StoneRingsPictureBounds::leastFrom);
        sentence("RINGS: as many as there can be", StoneRingsPictureBounds::mostRings);
        sentence("RINGS: Its WIDTH is how far it is behind the RING before (behind 0)", StoneRingsPictureBounds::widths);
        sentence("RINGS: FALSE, if there is a RING before it and one behind it", StoneRingsPictureBounds::falseEnds);
        sentence("RINGS: twice its WIDTH is below that of both", StoneRingsPictureBounds::falseNarrow);
        sentence("12: FLOOR(length times the place of the RING, by that of the last SAMPLE)", StoneRingsPictureBounds::lengthAtRings);
    }

    private static void joins() {
        sentence("JOINED: in rising order, one with one", StoneRingsPictureBounds::oneWithOne);
        sentence("JOINED: the differences of the places (without sign)", StoneRingsPictureBounds::withoutSign);
        sentence("JOINED: SKIP for each other RING of both; the least COST counts", StoneRingsPictureBounds::skips);
        sentence("JOINED: as many RINGS as there can be", StoneRingsPictureBounds::mostJoined);
        sentence("JOINED: of several ways that which puts both next ones together", StoneRingsPictureBounds::puttingTogetherFirst);
        sentence("JOINED: or else leaves out that of the first ray", StoneRingsPictureBounds::leavingOutTheFirst);
        sentence("11: by the latest join(); NONE if it was left out", StoneRingsPictureBounds::latestJoin);
        sentence("11: the first ray had no such RING then", StoneRingsPictureBounds::ringsThen);
    }

    public static void main(String[] args) {
        picture();
        rays();
        rings();
        joins();
        sentence("An object is used for at most 512 calls", StoneRingsPictureBounds::lastCalls);
        sentence("A call that only asks changes nothing", StoneRingsPictureBounds::onlyAsked);
        end();
    }
}
