import java.util.Arrays;

/**
 * Which calls are refused: each number of each call at the least and the greatest that is taken, at the nearest on
 * either side that is not, in between and far off, with all such numbers of the others; which of several exceptions
 * is thrown; and that a refused call changed nothing.
 */
public final class StoneRingsRefusals extends StoneRingsChecks {
    private static final int[] LENGTHS = {16, 16, 1, 8, 9, 16, 16, 16};
    private static final int[] RINGS = {3, 2, 0, 1, 1, 0, 0, 3};

    private interface Asked {
        void on(StoneRings x, int[] n);
    }

    /** What is thrown where every number is within its bounds; null where the call is taken. */
    private interface Within {
        Class<?> of(int[] n);
    }

    private static final Within TAKEN = n -> null;
    private static final Within NEVER = n -> STATE;

    /** A number's bounds, and what is thrown outside them. */
    private record Bound(Class<?> refusal, int least, int greatest) {
        boolean refuses(int n, Class<?> by) {
            return refusal == by && (n < least || n > greatest);
        }

        int[] tries() {
            return new int[] {LEAST, least - 1, least, (least + greatest) / 2, greatest, greatest + 1, MOST};
        }
    }

    private static Bound index(int least, int greatest) {
        return new Bound(INDEX, least, greatest);
    }

    private static Bound number(int least, int greatest) {
        return new Bound(ARGUMENT, least, greatest);
    }

    private static Bound free(int least, int greatest) {
        return new Bound(null, least, greatest);
    }

    private static boolean anyRefuses(Bound[] bounds, int[] n, Class<?> by) {
        for (int k = 0; k < n.length; k++) {
            if (bounds[k].refuses(n[k], by)) {
                return true;
            }
        }
        return false;
    }

    private static Class<?> dueFor(Bound[] bounds, int[] n, Within within) {
        if (anyRefuses(bounds, n, INDEX)) {
            return INDEX;
        }
        return anyRefuses(bounds, n, ARGUMENT) ? ARGUMENT : within.of(n);
    }

    private static void everyEdge(Maker maker, Asked call, Within within, Bound... bounds) {
        int[] n = new int[bounds.length];
        tryFrom(0, n, maker, call, within, bounds);
    }

    private static void tryFrom(int at, int[] n, Maker maker, Asked call, Within within, Bound[] bounds) {
        if (at == n.length) {
            tryOne(n, maker, call, dueFor(bounds, n, within));
            return;
        }
        for (int tried : bounds[at].tries()) {
            n[at] = tried;
            tryFrom(at + 1, n, maker, call, within, bounds);
        }
    }

    private static void tryOne(int[] n, Maker maker, Asked call, Class<?> want) {
        String text = "called with " + Arrays.toString(n) + " it";
        if (want == null) {
            thrown(text, maker.make(), null, o -> call.on(o, n));
        } else {
            refusedBy(maker, text, want, o -> call.on(o, n));
        }
    }

    /** That the object which is tried has as many samples and rings as the bounds above say. */
    private static void triedObject() {
        StoneRings x = used();
        for (int ray = 0; ray < 8; ray++) {
            due("samples(" + ray + ")", x.samples(ray), LENGTHS[ray]);
            due("rings(" + ray + ")", x.rings(ray), RINGS[ray]);
        }
        x.rule(1, 2);
        due("rings(4) by another APART", x.rings(4), RINGS[4] + 1);
        x.rule(2, 1);
        due("rings(3) by another HIGH", x.rings(3), RINGS[3] + 1);
    }

    private static StoneRings unused() {
        return new StoneRings(16, 16);
    }

    private static StoneRings withRays(int rays) {
        StoneRings x = unused();
        x.pixel(3, 3, 9);
        for (int k = 0; k < rays; k++) {
            x.ray(1, k % 3 - 1);
        }
        return x;
    }

    private static Class<?> direction(int[] n, Class<?> otherwise) {
        return n[0] == 0 && n[1] == 0 ? ARGUMENT : otherwise;
    }

    private static boolean hasTold(int reader, int stone) {
        return stone == 0 && reader <= 1 || stone == 19 && reader == 0;
    }

    private static void pixelsAndRays() {
        sentence("1: WIDTH and HEIGHT the nearest of 1 .. 16: no size is refused", () ->
                everyEdge(StoneRingsRefusals::unused, (x, n) -> new StoneRings(n[0], n[1]), TAKEN, free(1, 16), free(1, 16)));
        sentence("2: there is no such pixel; v is not 0 .. 255", () ->
                everyEdge(StoneRingsChecks::used, (x, n) -> x.pixel(n[0], n[1], n[2]), TAKEN,
                        index(0, 15), index(0, 15), number(0, 255)));
        sentence("2: there is no such pixel, on a picture that is wider than high", () ->
                everyEdge(() -> new StoneRings(3, 2), (x, n) -> x.pixel(n[0], n[1], n[2]), TAKEN,
                        index(0, 2), index(0, 1), number(0, 255)));
        sentence("2: there is no such pixel, on the least picture", () ->
                everyEdge(() -> new StoneRings(1, 1), (x, n) -> x.pixel(n[0], n[1], n[2]), TAKEN,
                        index(0, 0), index(0, 0), number(0, 255)));
        sentence("3: another axis", () -> {
            everyEdge(StoneRingsChecks::used, (x, n) -> x.middle(n[0]), TAKEN, index(0, 1));
            everyEdge(StoneRingsRefusals::unused, (x, n) -> x.middle(n[0]), TAKEN, index(0, 1));
        });
        sentence("4: dx or dy is not -5 .. 5, or both are 0", () ->
                everyEdge(() -> withRays(7), (x, n) -> x.ray(n[0], n[1]), n -> direction(n, null), number(-5, 5), number(-5, 5)));
        sentence("4: there are 8", () ->
                everyEdge(() -> withRays(8), (x, n) -> x.ray(n[0], n[1]), n -> direction(n, STATE), number(-5, 5), number(-5, 5)));
        sentence("7: apart is not 1 .. 10, or high not 0 .. 255", () ->
                everyEdge(StoneRingsChecks::used, (x, n) -> x.rule(n[0], n[1]), TAKEN, number(1, 10), number(0, 255)));
    }

    private static void raysAsked() {
        sentence("5: there is no such ray", () ->
                everyEdge(StoneRingsChecks::used, (x, n) -> x.samples(n[0]), TAKEN, index(0, 7)));
        sentence("6: there is no such ray, sample", () -> {
            Within sample = n -> n[1] < LENGTHS[n[0]] ? null : INDEX;
            everyEdge(StoneRingsChecks::used, (x, n) -> x.sample(n[0], n[1], false), sample, index(0, 7), index(0, 15));
            everyEdge(StoneRingsChecks::used, (x, n) -> x.sample(n[0], n[1], true), sample, index(0, 7), index(0, 15));
        });
        sentence("8: there is no such ray", () ->
                everyEdge(StoneRingsChecks::used, (x, n) -> x.rings(n[0]), TAKEN, index(0, 7)));
        sentence("9: there is no such ray, ring; also of what", () ->
                everyEdge(StoneRingsChecks::used, (x, n) -> x.ring(n[0], n[1], n[2]), n -> n[1] < RINGS[n[0]] ? null : INDEX,
                        index(0, 7), index(0, 2), index(0, 3)));
        sentence("10: there is no such ray; skip is not 0 .. 50", () ->
                everyEdge(StoneRingsChecks::used, (x, n) -> x.join(n[0], n[1], n[2]), TAKEN,
                        index(0, 7), index(0, 7), number(0, 50)));
        sentence("11: there was none (first)", () ->
                everyEdge(() -> withRays(8), (x, n) -> x.joined(n[0]), NEVER, free(0, 6)));
        sentence("11: the first ray had no such RING then", () ->
                everyEdge(StoneRingsChecks::used, (x, n) -> x.joined(n[0]), TAKEN, index(0, 2)));
        sentence("12: there is no such ray, ring; length is not 0 .. 100000", () ->
                everyEdge(StoneRingsChecks::used, (x, n) -> x.back(n[0], n[1], n[2]), StoneRingsRefusals::ofBack,
                        index(0, 7), free(0, 2), free(0, 100000)));
        sentence("22: there is no such ray", () ->
                everyEdge(StoneRingsChecks::used, (x, n) -> x.twin(n[0], n[1]), TAKEN, index(0, 7), index(0, 7)));
    }

    /** Which rings there are goes by the ray, and no such ring is told before a wrong length. */
    private static Class<?> ofBack(int[] n) {
        if (n[1] < 0 || n[1] >= RINGS[n[0]]) {
            return INDEX;
        }
        return n[2] < 0 || n[2] > 100000 ? ARGUMENT : null;
    }

    private static void askEveryRay(StoneRings x, int ray, Class<?> want) {
        thrown("5: samples(" + ray + ")", x, want, o -> o.samples(ray));
        thrown("6: sample(" + ray + ", 0, false)", x, want, o -> o.sample(ray, 0, false));
        thrown("8: rings(" + ray + ")", x, want, o -> o.rings(ray));
        thrown("10: join(" + ray + ", " + ray + ", 0)", x, want, o -> o.join(ray, ray, 0));
        thrown("22: twin(" + ray + ", " + ray + ")", x, want, o -> o.twin(ray, ray));
    }

    private static void raysNotTold() {
        for (int rays = 0; rays <= 8; rays++) {
            StoneRings x = withRays(rays);
            int next = rays;
            for (int ray = 0; ray < rays; ray++) {
                askEveryRay(x, ray, null);
            }
            askEveryRay(x, next, INDEX);
            thrown("9: ring(" + next + ", 0, 0)", x, INDEX, o -> o.ring(next, 0, 0));
            thrown("12: back(" + next + ", 0, 0)", x, INDEX, o -> o.back(next, 0, 0));
            if (rays > 0) {
                thrown("10: join(0, " + next + ", 0)", x, INDEX, o -> o.join(0, next, 0));
                thrown("10: join(" + next + ", 0, 0)", x, INDEX, o -> o.join(next, 0, 0));
                thrown("22: twin(0, " + next + ")", x, INDEX, o -> o.twin(0, next));
                thrown("22: twin(" + next + ", 0)", x, INDEX, o -> o.twin(next, 0));
            }
        }
    }

    private static void readers() {
        sentence("13: there is no such reader, stone; counted is not 0 .. 60; it told one of that STONE before", () ->
                everyEdge(StoneRingsChecks::used, (x, n) -> x.tell(n[0], n[1], n[2]), n -> hasTold(n[0], n[1]) ? STATE : null,
                        index(0, 3), index(0, 19), number(0, 60)));
        sentence("14: there is no such reader, stone", () ->
                everyEdge(StoneRingsChecks::used, (x, n) -> x.may(n[0], n[1]), TAKEN, index(0, 3), index(0, 19)));
        sentence("15: there is no such reader, stone; it may not", () ->
                everyEdge(StoneRingsChecks::used, (x, n) -> x.seen(n[0], n[1], n[2]), n -> hasTold(n[0], n[2]) ? null : STATE,
                        index(0, 3), index(0, 3), index(0, 19)));
        sentence("16: there is no such reader, part", () ->
                everyEdge(StoneRingsChecks::used, (x, n) -> x.agree(n[0], n[1], n[2]), TAKEN,
                        index(0, 3), index(0, 3), index(0, 1)));
        sentence("17: there is no such reader, part", () ->
                everyEdge(StoneRingsChecks::used, (x, n) -> x.bias(n[0], n[1], n[2]), TAKEN,
                        index(0, 3), index(0, 3), index(0, 1)));
        sentence("18: there is no such stone", () ->
                everyEdge(StoneRingsChecks::used, (x, n) -> x.told(n[0]), TAKEN, index(0, 19)));
        sentence("19: there is no such reader", () ->
                everyEdge(StoneRingsChecks::used, (x, n) -> x.right(n[0]), TAKEN, index(0, 3)));
        sentence("20: there is no such place", () ->
                everyEdge(StoneRingsChecks::used, (x, n) -> x.best(n[0]), TAKEN, index(0, 3)));
        sentence("21: there is no such stone; day or birthday is not 0 .. 364", () ->
                everyEdge(StoneRingsChecks::used, (x, n) -> x.age(n[0], n[1], n[2]), TAKEN,
                        index(0, 19), number(0, 364), number(0, 364)));
        sentence("23: NONE for another what: none is refused", () ->
                everyEdge(StoneRingsChecks::used, (x, n) -> x.count(n[0]), TAKEN, free(0, 3)));
    }

    private static void firstNamed() {
        refused("pixel(16, 0, 256)", INDEX, o -> o.pixel(16, 0, 256));
        refused("ray(6, 0) where there are 8", ARGUMENT, o -> o.ray(6, 0));
        refused("ray(0, 0) where there are 8", ARGUMENT, o -> o.ray(0, 0));
        refused("join(8, 0, 51)", INDEX, o -> o.join(8, 0, 51));
        refused("join(0, 8, -1)", INDEX, o -> o.join(0, 8, -1));
        thrown("joined(-1) before any join", twoRays(), STATE, o -> o.joined(-1));
        thrown("joined(3) before any join", twoRays(), STATE, o -> o.joined(3));
        refused("back(8, 0, 100001)", INDEX, o -> o.back(8, 0, 100001));
        refused("back(0, 3, -1)", INDEX, o -> o.back(0, 3, -1));
        refused("tell(4, 0, 61)", INDEX, o -> o.tell(4, 0, 61));
        refused("tell(0, 20, -1)", INDEX, o -> o.tell(0, 20, -1));
        refused("tell(0, 0, 61) of a stone that it told", ARGUMENT, o -> o.tell(0, 0, 61));
        refused("seen(3, 4, 0), which may not", INDEX, o -> o.seen(3, 4, 0));
        refused("age(20, 365, 0)", INDEX, o -> o.age(20, 365, 0));
        refused("age(-1, 0, -1)", INDEX, o -> o.age(-1, 0, -1));
    }

    /** Nothing told and nothing painted: there is still less that a refused call could hide behind. */
    private static void onUnused() {
        Maker unused = StoneRingsRefusals::unused;
        refusedBy(unused, "pixel(0, 0, 256)", ARGUMENT, o -> o.pixel(0, 0, 256));
        refusedBy(unused, "ray(0, 0)", ARGUMENT, o -> o.ray(0, 0));
        refusedBy(unused, "samples(0)", INDEX, o -> o.samples(0));
        refusedBy(unused, "join(0, 0, 51)", INDEX, o -> o.join(0, 0, 51));
        refusedBy(() -> withRays(1), "join(0, 0, 51), which is no join for joined()", ARGUMENT, o -> o.join(0, 0, 51));
        refusedBy(() -> withRays(1), "join(0, 1, 0), which is no join for joined()", INDEX, o -> o.join(0, 1, 0));
        refusedBy(unused, "tell(0, 0, 61)", ARGUMENT, o -> o.tell(0, 0, 61));
        refusedBy(unused, "seen(0, 0, 0)", STATE, o -> o.seen(0, 0, 0));
        refusedBy(unused, "joined(0)", STATE, o -> o.joined(0));
    }

    /** A call that was refused may be made rightly afterwards, as if for the first time. */
    private static void rightlyAfterwards() {
        StoneRings x = unused();
        thrown("pixel(4, 4, 256)", x, ARGUMENT, o -> o.pixel(4, 4, 256));
        due("pixel(4, 4, 255)", x.pixel(4, 4, 255), true);
        thrown("ray(0, 0)", x, ARGUMENT, o -> o.ray(0, 0));
        due("ray(1, 0)", x.ray(1, 0), 0);
        thrown("join(0, 0, 51)", x, ARGUMENT, o -> o.join(0, 0, 51));
        thrown("joined(0)", x, STATE, o -> o.joined(0));
        due("join(0, 0, 50)", x.join(0, 0, 50), 0);
        thrown("joined(0)", x, INDEX, o -> o.joined(0));
        thrown("tell(0, 0, 61)", x, ARGUMENT, o -> o.tell(0, 0, 61));
        due("may(0, 0)", x.may(0, 0), false);
        x.tell(0, 0, 60);
        thrown("tell(0, 0, 59)", x, STATE, o -> o.tell(0, 0, 59));
        due("told(0)", x.told(0), 60);
        due("count(2)", x.count(2), 1);
    }

    public static void main(String[] args) {
        sentence("the object that is tried", StoneRingsRefusals::triedObject);
        pixelsAndRays();
        raysAsked();
        sentence("5, 6, 8, 9, 10, 12, 22: there is no such ray: one that is not told yet", StoneRingsRefusals::raysNotTold);
        readers();
        sentence("of several exceptions the one named first is thrown", StoneRingsRefusals::firstNamed);
        sentence("A call that throws changes nothing: on an object that was not used", StoneRingsRefusals::onUnused);
        sentence("A call that throws changes nothing: the same call is taken afterwards", StoneRingsRefusals::rightlyAfterwards);
        end();
    }
}
