import java.util.Arrays;

/** The boundary cases of the picture and the rays, each under the words of the document. */
public final class StoneRingsPictureBounds extends StoneRingsChecks {
    private static int nearest(int side) {
        return side < 1 ? 1 : side > 16 ? 16 : side;
    }

    private static void sizes() {
        for (int side : new int[] {LEAST, -1, 0, 1, 2, 15, 16, 17, 18, MOST}) {
            int last = nearest(side) - 1;
            StoneRings wide = new StoneRings(side, 5);
            due("width " + side + ": the last pixel", wide.pixel(last, 4, 1), true);
            thrown("width " + side + ": behind the last pixel", wide, INDEX, o -> o.pixel(last + 1, 4, 1));
            thrown("width " + side + ": below the last pixel", wide, INDEX, o -> o.pixel(last, 5, 1));
            StoneRings high = new StoneRings(5, side);
            due("height " + side + ": the last pixel", high.pixel(4, last, 1), true);
            thrown("height " + side + ": below the last pixel", high, INDEX, o -> o.pixel(4, last + 1, 1));
            thrown("height " + side + ": behind the last pixel", high, INDEX, o -> o.pixel(5, last, 1));
        }
    }

    private static void newObject() {
        StoneRings x = new StoneRings(16, 16);
        for (int what = 0; what < 4; what++) {
            due("count(" + what + ")", x.count(what), 0);
        }
        due("middle(0)", x.middle(0), NONE);
        due("middle(1)", x.middle(1), NONE);
        thrown("joined(0)", x, STATE, o -> o.joined(0));
        thrown("samples(0)", x, INDEX, o -> o.samples(0));
        for (int k = 0; k < 4; k++) {
            due("right(" + k + ")", x.right(k), 0);
            due("best(" + k + ")", x.best(k), k);
        }
        for (int stone = 0; stone < 20; stone++) {
            due("told(" + stone + ")", x.told(stone), NONE);
        }
    }

    private static void zeroAtFirst() {
        StoneRings x = new StoneRings(16, 16);
        for (int k = 0; k < 256; k++) {
            due("pixel(" + k % 16 + ", " + k / 16 + ", 0)", x.pixel(k % 16, k / 16, 0), false);
        }
        due("count(3)", x.count(3), 0);
    }

    private static void rightAndDown() {
        StoneRings x = new StoneRings(3, 3);
        x.pixel(1, 1, 100);
        x.pixel(2, 1, 4);
        x.pixel(0, 1, 3);
        x.pixel(1, 2, 2);
        x.pixel(1, 0, 1);
        int[][] ways = {{1, 0, 4}, {-1, 0, 3}, {0, 1, 2}, {0, -1, 1}};
        for (int[] w : ways) {
            int ray = x.ray(w[0], w[1]);
            due("sample(" + ray + ", 0)", x.sample(ray, 0, false), 100);
            due("sample(" + ray + ", 1)", x.sample(ray, 1, false), w[2]);
        }
    }

    private static StoneRings full() {
        StoneRings x = new StoneRings(16, 16);
        for (int k = 0; k < 256; k++) {
            x.pixel(k % 16, k / 16, 255);
        }
        return x;
    }

    private static void fullPicture() {
        StoneRings x = full();
        due("count(3)", x.count(3), 65280);
        due("middle(0)", x.middle(0), 7);
        due("middle(1)", x.middle(1), 7);
        due("ray(1, 0)", x.ray(1, 0), 0);
        x.rule(1, 0);
        due("samples(0)", x.samples(0), 9);
        due("rings(0)", x.rings(0), 0);
        for (int k = 0; k < 9; k++) {
            due("sample(0, " + k + ", false)", x.sample(0, k, false), 255);
            due("sample(0, " + k + ", true)", x.sample(0, k, true), 255);
        }
        due("pixel(15, 15, 255)", x.pixel(15, 15, 255), false);
        due("pixel(15, 15, 254)", x.pixel(15, 15, 254), true);
        due("count(3)", x.count(3), 65279);
    }

    private static void another() {
        StoneRings x = new StoneRings(2, 2);
        int[] values = {0, 1, 1, 0, 0, 255, 255, 254, 255, 0};
        boolean[] others = {false, true, false, true, false, true, false, true, true, true};
        for (int k = 0; k < values.length; k++) {
            due("pixel(1, 0, " + values[k] + "), call " + k, x.pixel(1, 0, values[k]), others[k]);
            due("count(3)", x.count(3), values[k]);
        }
        x.pixel(1, 0, 7);
        due("pixel(0, 1, 7): that of another place", x.pixel(0, 1, 7), true);
    }

    private static void middleFloor() {
        StoneRings x = new StoneRings(16, 16);
        x.pixel(0, 0, 254);
        x.pixel(1, 0, 255);
        due("middle(0), 255 by 509", x.middle(0), 0);
        x.pixel(2, 0, 253);
        due("middle(0), 761 by 762", x.middle(0), 0);
        x.pixel(2, 0, 254);
        due("middle(0), 763 by 763", x.middle(0), 1);
        StoneRings y = new StoneRings(16, 16);
        y.pixel(0, 0, 254);
        y.pixel(0, 1, 255);
        y.pixel(0, 2, 253);
        due("middle(1), 761 by 762", y.middle(1), 0);
        y.pixel(0, 2, 254);
        due("middle(1), 763 by 763", y.middle(1), 1);
    }

    private static void middleCorners() {
        for (int corner = 0; corner < 4; corner++) {
            int x = corner % 2 * 15;
            int y = corner / 2 * 15;
            StoneRings one = new StoneRings(16, 16);
            one.pixel(x, y, 1);
            due("middle(0) of " + x + ", " + y, one.middle(0), x);
            due("middle(1) of " + x + ", " + y, one.middle(1), y);
        }
    }

    private static void noMiddle() {
        StoneRings x = new StoneRings(3, 3);
        due("middle(0) of nothing", x.middle(0), NONE);
        due("middle(1) of nothing", x.middle(1), NONE);
        x.pixel(0, 0, 1);
        due("middle(0) of the least pixel at 0", x.middle(0), 0);
        due("middle(1) of the least pixel at 0", x.middle(1), 0);
        x.pixel(2, 2, 255);
        x.pixel(0, 0, 0);
        due("middle(0) of the other one", x.middle(0), 2);
        x.pixel(2, 2, 0);
        due("middle(0) of nothing again", x.middle(0), NONE);
        due("middle(1) of nothing again", x.middle(1), NONE);
    }

    private static void raysAsTold() {
        StoneRings x = new StoneRings(16, 16);
        x.pixel(5, 9, 1);
        int[][] told = {{1, 0, 11}, {-1, 0, 6}, {0, 1, 7}, {0, -1, 10}, {1, 0, 11}, {-5, 0, 6}, {0, 5, 7}, {0, -5, 10}};
        for (int k = 0; k < 8; k++) {
            due("count(0)", x.count(0), k);
            due("ray(" + told[k][0] + ", " + told[k][1] + ")", x.ray(told[k][0], told[k][1]), k);
        }
        for (int k = 0; k < 8; k++) {
            due("samples(" + k + ")", x.samples(k), told[k][2]);
        }
        thrown("a ninth ray", x, STATE, o -> o.ray(1, 0));
        due("count(0)", x.count(0), 8);
        due("samples(7)", x.samples(7), told[7][2]);
    }

    /** Each pixel is 16 * y + x, so that a sample tells where it was taken; the middle is 7, 10. */
    private static StoneRings map() {
        StoneRings x = new StoneRings(16, 16);
        for (int k = 0; k < 256; k++) {
            x.pixel(k % 16, k / 16, k);
        }
        due("middle(0) of the map", x.middle(0), 7);
        due("middle(1) of the map", x.middle(1), 10);
        return x;
    }

    private static void along(StoneRings x, int dx, int dy, int[] xs, int[] ys) {
        int ray = x.ray(dx, dy);
        String way = "ray(" + dx + ", " + dy + "): ";
        int length = x.samples(ray);
        due(way + "samples", length, xs.length);
        for (int k = 0; k < xs.length && k < length; k++) {
            due(way + "sample " + k, x.sample(ray, k, false), 16 * ys[k] + xs[k]);
        }
    }

    private static void places() {
        StoneRings x = map();
        int[] right = {7, 8, 9, 10, 11, 12, 13, 14, 15};
        int[] left = {7, 6, 5, 4, 3, 2, 1, 0};
        int[] up = {10, 9, 8, 7, 6, 5, 4, 3, 2, 1, 0};
        int[] down = {10, 11, 12, 13, 14, 15};
        along(x, 2, 1, right, new int[] {10, 11, 11, 12, 12, 13, 13, 14, 14});
        along(x, 2, -1, right, new int[] {10, 10, 9, 9, 8, 8, 7, 7, 6});
        along(x, -1, 2, new int[] {7, 7, 6, 6, 5, 5}, down);
        along(x, 1, -2, new int[] {7, 8, 8, 9, 9, 10, 10, 11, 11, 12, 12}, up);
        along(x, 5, -2, right, new int[] {10, 10, 9, 9, 8, 8, 8, 7, 7});
        along(x, -4, -3, left, new int[] {10, 9, 9, 8, 7, 6, 6, 5});
        along(x, -5, 5, new int[] {7, 6, 5, 4, 3, 2}, down);
        along(x, 0, -3, new int[] {7, 7, 7, 7, 7, 7, 7, 7, 7, 7, 7}, up);
    }

    private static void lengths(StoneRings x, int[][] rays) {
        for (int[] r : rays) {
            int ray = x.ray(r[0], r[1]);
            int length = r[2];
            due("ray(" + r[0] + ", " + r[1] + "): samples", x.samples(ray), length);
            thrown("ray(" + r[0] + ", " + r[1] + "): the last sample", x, null, o -> o.sample(ray, length - 1, true));
            thrown("ray(" + r[0] + ", " + r[1] + "): behind it", x, INDEX, o -> o.sample(ray, length, true));
            thrown("ray(" + r[0] + ", " + r[1] + "): before the first", x, INDEX, o -> o.sample(ray, -1, true));
        }
    }

    private static void onThePicture() {
        StoneRings corner = new StoneRings(16, 16);
        corner.pixel(15, 15, 1);
        lengths(corner, new int[][] {{1, 0, 1}, {-1, 0, 16}, {0, 1, 1}, {0, -1, 16}, {-1, -1, 16}, {-5, 1, 3}, {-5, -1, 16}, {1, -5, 3}});
        StoneRings first = new StoneRings(16, 16);
        first.pixel(0, 0, 1);
        lengths(first, new int[][] {{1, 0, 16}, {-1, 0, 1}, {0, 1, 16}, {0, -1, 1}, {1, 1, 16}, {5, -1, 3}, {-1, 5, 3}, {5, 4, 16}});
        StoneRings low = new StoneRings(16, 2);
        low.pixel(0, 0, 1);
        lengths(low, new int[][] {{1, 0, 16}, {5, 1, 8}, {5, 2, 4}, {1, 1, 2}, {0, 1, 2}});
        StoneRings narrow = new StoneRings(2, 16);
        narrow.pixel(1, 15, 1);
        lengths(narrow, new int[][] {{-1, 0, 2}, {0, -1, 16}, {-1, -5, 8}, {1, -5, 3}});
        StoneRings least = new StoneRings(1, 1);
        least.pixel(0, 0, 1);
        lengths(least, new int[][] {{1, 0, 1}, {-1, 0, 1}, {0, 1, 1}, {0, -1, 1}, {5, 5, 1}, {-5, -5, 1}, {5, -1, 1}, {-1, 5, 1}});
    }

    private static void noSamples() {
        StoneRings x = new StoneRings(16, 16);
        x.ray(1, 0);
        x.ray(-5, 3);
        for (int round = 0; round < 2; round++) {
            for (int ray = 0; ray < 2; ray++) {
                int a = ray;
                due("samples(" + a + ")", x.samples(a), 0);
                due("rings(" + a + ")", x.rings(a), 0);
                thrown("sample(" + a + ", 0, false)", x, INDEX, o -> o.sample(a, 0, false));
                thrown("sample(" + a + ", 0, true)", x, INDEX, o -> o.sample(a, 0, true));
                thrown("ring(" + a + ", 0, 0)", x, INDEX, o -> o.ring(a, 0, 0));
                thrown("back(" + a + ", 0, 1)", x, INDEX, o -> o.back(a, 0, 1));
            }
            joinsAs(x, 0, 1, 50, 0);
            due("twin(0, 1)", x.twin(0, 1), true);
            x.pixel(8, 8, 200);
            due("samples(0) with a middle", x.samples(0), 8);
            x.pixel(8, 8, 0);
        }
    }

    private static void evensAre(StoneRings x, int from, int... evens) {
        for (int k = 0; k < evens.length; k++) {
            due("sample(0, " + (from + k) + ", true)", x.sample(0, from + k, true), evens[k]);
        }
    }

    private static void evenedEnds() {
        StoneRings x = line(40, 0, 0, 0, 0, 0, 0, 0, 0, 0, 0, 0, 0, 0, 0, 40);
        evensAre(x, 0, 30, 10, 0);
        evensAre(x, 13, 0, 10, 30);
        StoneRings two = new StoneRings(2, 1);
        two.pixel(0, 0, 10);
        two.pixel(1, 0, 20);
        two.ray(1, 0);
        evensAre(two, 0, 13, 18);
        StoneRings one = new StoneRings(1, 1);
        one.pixel(0, 0, 255);
        one.ray(1, 0);
        evensAre(one, 0, 255);
        one.pixel(0, 0, 1);
        evensAre(one, 0, 1);
    }

    private static void evenedFloor() {
        evensAre(line(0, 0, 1, 0, 0, 2, 0, 0, 3, 0, 0, 5, 0, 0, 6, 0), 0, 0, 0, 1, 0, 1, 1, 1, 1, 2, 1, 1, 3, 1, 2, 3, 2);
    }

    private static void asTheyAre() {
        StoneRings x = new StoneRings(16, 1);
        x.ray(1, 0);
        x.pixel(4, 0, 9);
        due("samples(0) of a ray told before the pixel", x.samples(0), 12);
        due("sample(0, 0, false)", x.sample(0, 0, false), 9);
        x.pixel(4, 0, 8);
        due("sample(0, 0, false), another pixel", x.sample(0, 0, false), 8);
        x.pixel(0, 0, 255);
        due("samples(0) from another middle", x.samples(0), 16);
        due("sample(0, 4, false) from another middle", x.sample(0, 4, false), 8);
        ringsAt("by the rule at first", x);
        x.rule(2, 4);
        ringsAt("by another rule", x, 4);
        x.pixel(4, 0, 10);
        x.rule(2, 5);
        ringsAt("by another pixel", x, 4);
        x.rule(5, 5);
        ringsAt("by another rule again", x);
    }

    private static StoneRings fork(int... values) {
        StoneRings x = new StoneRings(16, 16);
        for (int y = 0; y < 16; y++) {
            x.pixel(0, y, 255);
        }
        x.ray(2, 1);
        x.ray(2, -1);
        x.ray(1, 0);
        row(x, 7, 0, values);
        return x;
    }

    private static void twins() {
        StoneRings x = fork(255, 0, 0, 0, 0, 0, 0, 0, 0, 0, 0, 0, 0, 0, 0, 0);
        due("middle(1)", x.middle(1), 7);
        due("samples(0)", x.samples(0), 16);
        due("samples(2)", x.samples(2), 16);
        due("twin(0, 2), each the same", x.twin(0, 2), true);
        due("twin(2, 0), each the same", x.twin(2, 0), true);
        x.pixel(15, 7, 1);
        due("twin(0, 2), the last one is another", x.twin(0, 2), false);
        x.pixel(15, 15, 1);
        due("twin(0, 2), the last one is the same again", x.twin(0, 2), true);
        x.pixel(1, 7, 1);
        due("twin(0, 2), that at 1 is another", x.twin(0, 2), false);
        due("twin(0, 0), itself", x.twin(0, 0), true);
        StoneRings evens = fork(255, 0, 1, 0, 1, 0, 0, 0, 0, 0, 0, 0, 0, 0, 0, 0);
        evens.pixel(2, 8, 2);
        evens.pixel(4, 9, 1);
        for (int k = 0; k < 16; k++) {
            due("evened " + k + " of the two", evens.sample(0, k, true), evens.sample(2, k, true));
        }
        due("twin(0, 2), evened the same, but 2 and 1", evens.twin(0, 2), false);
        StoneRings shorter = new StoneRings(16, 8);
        shorter.pixel(0, 4, 200);
        shorter.ray(1, 0);
        shorter.ray(-1, 0);
        shorter.ray(2, 1);
        shorter.ray(0, 1);
        shorter.ray(0, -1);
        int[] lengths = {16, 1, 7, 4, 5};
        for (int ray = 0; ray < lengths.length; ray++) {
            due("samples(" + ray + ")", shorter.samples(ray), lengths[ray]);
            for (int other = 0; other < lengths.length; other++) {
                due("twin(" + ray + ", " + other + "), 0 behind the middle", shorter.twin(ray, other), ray == other);
            }
        }
    }

    /** 256 pixels, 8 rays, 80 counts, 164 joins and 4 counts are 512 calls. */
    private static void lastCalls() {
        StoneRings x = full();
        for (int k = 0; k < 8; k++) {
            due("ray " + k, x.ray(1, k - 4), k);
        }
        for (int k = 0; k < 80; k++) {
            x.tell(k / 20, k % 20, 60);
        }
        for (int k = 0; k < 164; k++) {
            due("join", x.join(k % 8, k / 8 % 8, 50), 0);
        }
        due("call 509: count(0)", x.count(0), 8);
        due("call 510: count(1)", x.count(1), 20);
        due("call 511: count(2)", x.count(2), 80);
        due("call 512: count(3)", x.count(3), 65280);
    }

    private static void onlyAsked() {
        StoneRings x = used();
        Call[] questions = {
            o -> o.middle(0), o -> o.samples(0), o -> o.sample(0, 15, true), o -> o.rings(7), o -> o.ring(0, 2, 3),
            o -> o.joined(0), o -> o.back(0, 2, 100000), o -> o.may(2, 19), o -> o.seen(0, 3, 19), o -> o.agree(0, 1, 0),
            o -> o.bias(0, 1, 1), o -> o.told(0), o -> o.right(0), o -> o.best(3), o -> o.age(0, 0, 364),
            o -> o.twin(0, 7), o -> o.twin(1, 6), o -> o.count(4), o -> o.rings(1), o -> o.samples(2),
        };
        Arrays.stream(questions).forEach(question -> question.on(x));
        if (!state(x).equals(state(used()))) {
            fail("a call that only asks changed something");
        }
    }

    private static void picture() {
        sentence("1: WIDTH and HEIGHT the nearest of 1 .. 16", StoneRingsPictureBounds::sizes);
        sentence("1: A new object: nothing told, nothing painted, no join", StoneRingsPictureBounds::newObject);
        sentence("THE PICTURE: 0 at first", StoneRingsPictureBounds::zeroAtFirst);
        sentence("THE PICTURE: x to the right, y down", StoneRingsPictureBounds::rightAndDown);
        sentence("THE PICTURE has WIDTH by HEIGHT pixels 0 .. 255: all of them 255", StoneRingsPictureBounds::fullPicture);
        sentence("2: whether it is another one", StoneRingsPictureBounds::another);
        sentence("THE MIDDLE is x = FLOOR(..), y likewise", StoneRingsPictureBounds::middleFloor);
        sentence("THE MIDDLE: in each corner", StoneRingsPictureBounds::middleCorners);
        sentence("THE MIDDLE: there is none if all are 0", StoneRingsPictureBounds::noMiddle);
    }

    private static void rays() {
        sentence("RAYS 0 .. 7 (as they are told); 4: its number; there are 8", StoneRingsPictureBounds::raysAsTold);
        sentence("SAMPLE i: n the greater size of both, FLOOR((2 * dx * i + n) / (2 * n))", StoneRingsPictureBounds::places);
        sentence("SAMPLE: as long as these are on THE PICTURE", StoneRingsPictureBounds::onThePicture);
        sentence("SAMPLE: without a MIDDLE there are none", StoneRingsPictureBounds::noSamples);
        sentence("EVENED: SAMPLE k standing for one that there is not", StoneRingsPictureBounds::evenedEnds);
        sentence("EVENED k is FLOOR((.. + 2) / 4)", StoneRingsPictureBounds::evenedFloor);
        sentence("All is by THE PICTURE and the RULE as they are", StoneRingsPictureBounds::asTheyAre);
        sentence("22: as many SAMPLES, each the same", StoneRingsPictureBounds::twins);
    }

    public static void main(String[] args) {
        picture();
        rays();
        sentence("An object is used for at most 512 calls", StoneRingsPictureBounds::lastCalls);
        sentence("A call that only asks changes nothing", StoneRingsPictureBounds::onlyAsked);
        end();
    }
}
