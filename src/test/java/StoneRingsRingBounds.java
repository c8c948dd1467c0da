/** The boundary cases of the rings, the lengths at them and the joins, each under the words of the document. */
public final class StoneRingsRingBounds extends StoneRingsChecks {
    private static void ruleAtFirst() {
        ringsAt("just 2 apart and 5 high", line(0, 0, 9, 0, 0, 0, 0, 0, 0, 0, 0, 0, 0, 0, 0, 0), 2);
        ringsAt("2 apart and 4 high", line(0, 0, 8, 0, 0, 0, 0, 0, 0, 0, 0, 0, 0, 0, 0, 0));
        ringsAt("1 apart and 7 high", line(0, 30, 0, 0, 0, 0, 0, 0, 0, 0, 0, 0, 0, 0, 0, 0));
    }

    private static StoneRings by(StoneRings x, int apart, int high) {
        x.rule(apart, high);
        return x;
    }

    private static void firstPlace() {
        StoneRings one = by(line(0, 30, 0, 0, 0, 0, 0, 0, 0, 0, 0, 0, 0, 0, 0, 0), 1, 5);
        ringsAt("a top at 1", one, 1);
        StoneRings zero = by(line(30, 0, 0, 0, 0, 0, 0, 0, 0, 0, 0, 0, 0, 0, 0, 0), 1, 0);
        ringsAt("the greatest at 0", zero);
    }

    private static void lastPlace() {
        ringsAt("a top at 14", line(12, 0, 0, 0, 0, 0, 0, 0, 0, 0, 0, 0, 0, 0, 12, 0), 14);
        ringsAt("a flat one at 14 and 15", line(12, 0, 0, 0, 0, 0, 0, 0, 0, 0, 0, 0, 0, 12, 12, 12), 14);
        ringsAt("the greatest at 15", by(line(0, 0, 0, 0, 0, 0, 0, 0, 0, 0, 0, 0, 0, 0, 0, 12), 1, 0));
    }

    /** Samples 1, 10, 0 with evened 3, 5, 3. */
    private static StoneRings threeSamples() {
        StoneRings x = new StoneRings(3, 1);
        x.pixel(0, 0, 1);
        x.pixel(1, 0, 10);
        x.ray(1, 0);
        due("samples(0)", x.samples(0), 3);
        return x;
    }

    private static void shortRays() {
        StoneRings one = new StoneRings(1, 1);
        one.pixel(0, 0, 200);
        one.ray(1, 0);
        ringsAt("one sample", by(one, 1, 0));
        StoneRings two = new StoneRings(2, 1);
        two.pixel(0, 0, 1);
        two.pixel(1, 0, 200);
        two.ray(1, 0);
        due("samples(0)", two.samples(0), 2);
        ringsAt("two samples, the second one greater", by(two, 1, 0));
        ringsAt("three samples, 1 apart and 2 high", by(threeSamples(), 1, 2), 1);
        ringsAt("three samples, 1 apart and less than 3 high", by(threeSamples(), 1, 3));
        ringsAt("three samples, less than 2 apart", by(threeSamples(), 2, 0));
    }

    private static void aboveBefore() {
        ringsAt("a flat top counts where it begins, and there alone",
                by(line(0, 0, 0, 0, 20, 20, 20, 20, 0, 0, 0, 0, 0, 0, 0, 0), 1, 0), 5);
        ringsAt("all the same", by(line(9, 9, 9, 9, 9, 9, 9, 9, 9, 9, 9, 9, 9, 9, 9, 9), 1, 0));
    }

    private static void notBelowBehind() {
        ringsAt("as high as the next one", by(line(0, 0, 0, 20, 20, 20, 20, 0, 0, 0, 0, 0, 0, 0, 0, 0), 1, 0), 4);
        ringsAt("1 below the next one", by(line(0, 0, 0, 20, 20, 21, 22, 22, 22, 22, 0, 0, 0, 0, 0, 0), 1, 0), 6);
        ringsAt("1 above the next one", by(line(0, 0, 0, 20, 20, 20, 19, 19, 19, 0, 0, 0, 0, 0, 0, 0), 1, 0), 4);
    }

    private static void apart() {
        ringsAt("5 behind 0, then 2, then 5", by(twoRays(), 2, 2), 5, 7, 12);
        ringsAt("2 is less than 3", by(twoRays(), 3, 2), 5, 12);
        ringsAt("12 is 7 behind 5: what is no ring does not count as the one before", by(twoRays(), 7, 2), 7);
        ringsAt("5, which is just 5 behind 0", by(twoRays(), 5, 2), 5, 12);
        ringsAt("5 is less than 6, and 5 behind 7 too", by(twoRays(), 6, 2), 7);
        ringsAt("7 is less than 8", by(twoRays(), 8, 2), 12);
        int[] ten = {0, 0, 0, 0, 0, 0, 0, 0, 0, 0, 30, 0, 0, 0, 0, 0};
        int[] nine = {0, 0, 0, 0, 0, 0, 0, 0, 0, 30, 0, 0, 0, 0, 0, 0};
        ringsAt("10, the greatest APART", by(line(ten), 10, 5), 10);
        ringsAt("9 is less than the greatest APART", by(line(nine), 10, 5));
        ringsAt("1, the least APART", by(line(0, 30, 0, 0, 0, 0, 0, 0, 0, 0, 0, 0, 0, 0, 0, 0), 1, 5), 1);
    }

    private static void high() {
        ringsAt("5 more is as high as 5", by(line(0, 0, 9, 0, 0, 0, 0, 0, 0, 0, 0, 0, 0, 0, 0, 0), 2, 5), 2);
        ringsAt("5 more is less than 6", by(line(0, 0, 9, 0, 0, 0, 0, 0, 0, 0, 0, 0, 0, 0, 0, 0), 2, 6));
        ringsAt("255 more, the greatest HIGH", by(line(0, 0, 0, 255, 255, 255, 0, 0, 0, 0, 0, 0, 0, 0, 0, 0), 2, 255), 4);
        ringsAt("254 more is less than 255", by(line(0, 0, 0, 254, 254, 254, 0, 0, 0, 0, 0, 0, 0, 0, 0, 0), 2, 255));
        ringsAt("1 more, with HIGH 0", by(line(0, 0, 0, 1, 1, 1, 0, 0, 0, 0, 0, 0, 0, 0, 0, 0), 1, 0), 3);
    }

    private static void leastFrom() {
        int[] rising = {0, 10, 20, 20, 0, 0, 0, 0, 0, 0, 0, 0, 0, 0, 0, 0};
        ringsAt("18 is 15 more than 3 at 0", by(line(rising), 2, 15), 2);
        ringsAt("18 is less than 16 more than 3 at 0", by(line(rising), 2, 16));
        ringsAt("8 at 7 is 2 more than 6, the least from 5 on", by(twoRays(), 2, 2), 5, 7, 12);
        ringsAt("8 at 7 is less than 3 more than 6, though there was 0 before 5", by(twoRays(), 2, 3), 5, 12);
        ringsAt("8 at 5 is 8 more than 0, and 12 is more than that above 2", by(twoRays(), 2, 8), 5, 12);
        ringsAt("8 is less than 9 more, 12 is 12 more than 0", by(twoRays(), 2, 9), 12);
        ringsAt("12 is 12 more than 0", by(twoRays(), 2, 12), 12);
        ringsAt("12 is less than 13 more", by(twoRays(), 2, 13));
        int[] deep = {40, 40, 0, 0, 40, 40, 40, 20, 20, 40, 40, 40, 40, 40, 40, 0};
        ringsAt("40 at 10 is 15 more than 25, the least from 5 on, though 0 was before", by(line(deep), 2, 15), 5, 10);
        ringsAt("40 at 10 is less than 16 more than 25", by(line(deep), 2, 16), 5);
    }

    private static void mostRings() {
        ringsAt("seven at 1, 3 .. 13", sevenRings(), 1, 3, 5, 7, 9, 11, 13);
        // Evened 6 22 28 27 28 27 .. 27 28 28.
        StoneRings late = by(line(0, 25, 36, 13, 46, 5, 52, 1, 54, 1, 52, 5, 46, 13, 36, 25), 2, 1);
        ringsAt("seven at 2, 4 .. 14", late, 2, 4, 6, 8, 10, 12, 14);
        StoneRings x = sevenRings();
        thrown("ring(0, 6, 0)", x, null, o -> o.ring(0, 6, 0));
        thrown("ring(0, 7, 0)", x, INDEX, o -> o.ring(0, 7, 0));
        thrown("back(0, 6, 0)", x, null, o -> o.back(0, 6, 0));
        thrown("back(0, 7, 0)", x, INDEX, o -> o.back(0, 7, 0));
    }

    private static void whatOfRings() {
        StoneRings x = twoRays();
        int[][] rings = {{5, 8, 5, 0}, {7, 8, 2, 1}, {12, 12, 5, 0}};
        for (int k = 0; k < 12; k++) {
            due("ring(0, " + k / 4 + ", " + k % 4 + ")", x.ring(0, k / 4, k % 4), rings[k / 4][k % 4]);
        }
        StoneRings most = by(line(0, 0, 0, 255, 255, 255, 0, 0, 0, 0, 0, 0, 0, 0, 0, 0), 2, 255);
        due("ring(0, 0, 1), the greatest EVENED", most.ring(0, 0, 1), 255);
        StoneRings least = by(line(0, 0, 0, 1, 1, 1, 0, 0, 0, 0, 0, 0, 0, 0, 0, 0), 1, 0);
        due("ring(0, 0, 1), the least EVENED of a ring", least.ring(0, 0, 1), 1);
    }

    private static void widths() {
        StoneRings x = twoRays();
        int[] widths = {5, 2, 5};
        for (int k = 0; k < 3; k++) {
            due("ring(0, " + k + ", 2)", x.ring(0, k, 2), widths[k]);
        }
        x.rule(3, 2);
        due("ring(0, 1, 2): 12 is behind 5 now", x.ring(0, 1, 2), 7);
        x.rule(8, 2);
        due("ring(0, 0, 2): 12 is behind 0 now", x.ring(0, 0, 2), 12);
        due("ring(0, 0, 2) at place 1", sevenRings().ring(0, 0, 2), 1);
    }

    private static void ringsFalse(String text, StoneRings x, int[] places, int... falseOnes) {
        ringsAt(text, x, places);
        for (int k = 0; k < places.length; k++) {
            due(text + ": ring(0, " + k + ", 3)", x.ring(0, k, 3), falseOnes[k]);
        }
    }

    private static void falseEnds() {
        StoneRings first = by(line(0, 30, 0, 0, 0, 0, 0, 30, 0, 0, 0, 0, 0, 30, 0, 0), 1, 5);
        ringsFalse("1 wide, but none before it", first, new int[] {1, 7, 13}, 0, 0, 0);
        StoneRings last = by(line(13, 0, 0, 0, 6, 12, 0, 12, 6, 0, 0, 0, 0, 0, 0, 0), 2, 2);
        ringsFalse("2 wide behind 5, but none behind it", last, new int[] {5, 7}, 0, 0);
        StoneRings gone = twoRays();
        ringsFalse("2 wide behind 5, and one behind it", gone, new int[] {5, 7, 12}, 0, 1, 0);
        row(gone, 7, 10, 0, 0, 0, 0, 0, 0);
        ringsFalse("2 wide behind 5, and none behind it any more", gone, new int[] {5, 7}, 0, 0);
        ringsFalse("the only one", by(twoRays(), 8, 2), new int[] {12}, 0);
    }

    private static void falseNarrow() {
        ringsFalse("twice 2 is below 5 and 5", twoRays(), new int[] {5, 7, 12}, 0, 1, 0);
        StoneRings behind = by(line(13, 0, 0, 0, 6, 12, 0, 12, 6, 0, 12, 12, 12, 12, 12, 12), 2, 2);
        ringsFalse("twice 2 is below 5, not below 4 behind it", behind, new int[] {5, 7, 11}, 0, 0, 0);
        StoneRings before = by(line(0, 0, 0, 6, 12, 0, 12, 6, 0, 0, 12, 12, 12, 12, 12, 12), 2, 2);
        ringsFalse("twice 2 is below 5 behind it, not below 4", before, new int[] {4, 6, 11}, 0, 0, 0);
    }

    /** Rings at these places of ray 0, to the right, and of ray 1, which has no pixel but the middle with it. */
    private static StoneRings bumps(int[] ones, int[] others) {
        int[] values = new int[16];
        for (int place : ones) {
            values[place] = 12;
        }
        StoneRings x = line(values);
        x.ray(2, 1);
        for (int place : others) {
            x.pixel(place, 7 + (place + 1) / 2, 12);
        }
        x.rule(1, 2);
        ringsAt("of ray 0", x, ones);
        due("rings(1)", x.rings(1), others.length);
        for (int k = 0; k < others.length; k++) {
            due("ring(1, " + k + ", 0)", x.ring(1, k, 0), others[k]);
        }
        return x;
    }

    private static int[] at(int... places) {
        return places;
    }

    private static void oneWithOne() {
        joinsAs(bumps(at(4, 10), at(7)), 0, 1, 50, 53, 0, NONE);
        joinsAs(bumps(at(7), at(4, 10)), 0, 1, 50, 53, 0);
        joinsAs(bumps(at(4, 10), at(8)), 0, 1, 50, 52, NONE, 0);
        joinsAs(bumps(at(3, 6, 9), at(3, 9)), 0, 1, 50, 50, 0, NONE, 1);
        joinsAs(bumps(at(2, 6, 10), at(5, 9, 13)), 0, 1, 50, 9, 0, 1, 2);
        joinsAs(bumps(at(2, 6, 10), at(5, 9, 13)), 0, 1, 1, 4, NONE, 0, 1);
    }

    private static void withoutSign() {
        StoneRings x = bumps(at(4), at(9));
        joinsAs(x, 0, 1, 50, 5, 0);
        joinsAs(x, 1, 0, 50, 5, 0);
        joinsAs(x, 0, 0, 50, 0, 0);
        joinsAs(bumps(at(1), at(14)), 0, 1, 50, 13, 0);
        joinsAs(bumps(at(14), at(1)), 0, 1, 50, 13, 0);
    }

    private static void skips() {
        StoneRings none = bumps(at(3, 6, 9), at());
        joinsAs(none, 0, 1, 7, 21, NONE, NONE, NONE);
        joinsAs(none, 1, 0, 7, 21);
        joinsAs(none, 0, 1, 50, 150, NONE, NONE, NONE);
        joinsAs(none, 0, 1, 0, 0, NONE, NONE, NONE);
        joinsAs(none, 1, 1, 50, 0);
        StoneRings far = bumps(at(3), at(14));
        joinsAs(far, 0, 1, 6, 11, 0);
        joinsAs(far, 0, 1, 5, 10, NONE);
    }

    private static void mostJoined() {
        StoneRings x = sevenRings();
        x.ray(-1, 0);
        joinsAs(x, 0, 1, 50, 0, 0, 1, 2, 3, 4, 5, 6);
        joinsAs(x, 0, 1, 0, 0, 0, 1, 2, 3, 4, 5, 6);
        joinsAs(x, 0, 2, 50, 350, NONE, NONE, NONE, NONE, NONE, NONE, NONE);
        joinsAs(x, 2, 0, 50, 350);
        joinsAs(x, 2, 2, 50, 0);
    }

    private static void puttingTogetherFirst() {
        joinsAs(bumps(at(4), at(10)), 0, 1, 3, 6, 0);
        joinsAs(bumps(at(4), at(10)), 0, 1, 2, 4, NONE);
        joinsAs(bumps(at(5), at(2, 8)), 0, 1, 50, 53, 0);
        joinsAs(bumps(at(2, 8), at(5)), 0, 1, 50, 53, 0, NONE);
        joinsAs(bumps(at(2, 8), at(5)), 0, 1, 2, 5, 0, NONE);
    }

    private static void leavingOutTheFirst() {
        joinsAs(bumps(at(5), at(1, 7)), 0, 1, 1, 3, NONE);
        joinsAs(bumps(at(1, 7), at(5)), 0, 1, 1, 3, NONE, 0);
        joinsAs(bumps(at(1, 9), at(1, 5, 11)), 0, 1, 1, 3, 0, NONE);
        joinsAs(bumps(at(1, 5, 11), at(1, 9)), 0, 1, 1, 3, 0, NONE, 1);
        joinsAs(bumps(at(5), at(1, 5)), 0, 1, 0, 0, NONE);
        joinsAs(bumps(at(1, 5), at(5)), 0, 1, 0, 0, NONE, 0);
    }

    private static void latestJoin() {
        StoneRings x = bumps(at(3, 6, 9), at(6));
        joinsAs(x, 0, 1, 5, 10, NONE, 0, NONE);
        joinsAs(x, 1, 0, 5, 10, 1);
        x.ray(-1, 0);
        joinsAs(x, 2, 0, 5, 15);
        thrown("joined(0): the latest join had no ring", x, INDEX, o -> o.joined(0));
        joinsAs(x, 0, 1, 5, 10, NONE, 0, NONE);
        thrown("join(0, 1, 51)", x, ARGUMENT, o -> o.join(0, 1, 51));
        thrown("join(1, 3, 5)", x, INDEX, o -> o.join(1, 3, 5));
        due("joined(1) behind refused joins", x.joined(1), 0);
        due("joined(2) behind refused joins", x.joined(2), NONE);
    }

    private static void ringsThen() {
        StoneRings x = bumps(at(3, 6, 9), at(6));
        x.join(0, 1, 5);
        x.rule(10, 255);
        due("rings(0) now", x.rings(0), 0);
        due("joined(1) then", x.joined(1), 0);
        due("joined(2) then", x.joined(2), NONE);
        thrown("joined(3)", x, INDEX, o -> o.joined(3));
        x.rule(1, 2);
        x.pixel(12, 7, 12);
        due("rings(0) now", x.rings(0), 4);
        thrown("joined(3), which is a ring now", x, INDEX, o -> o.joined(3));
        due("joined(1) then", x.joined(1), 0);
        x.join(0, 1, 5);
        due("joined(3) behind another join", x.joined(3), NONE);
    }

    private static void lengthsBack(StoneRings x, int[][] lengths) {
        for (int[] l : lengths) {
            due("back(0, 0, " + l[0] + ")", x.back(0, 0, l[0]), l[1]);
        }
    }

    private static void lengthAtRings() {
        lengthsBack(bumps(at(14), at()), new int[][] {{0, 0}, {1, 0}, {2, 1}, {15, 14}, {16, 14}, {99999, 93332}, {100000, 93333}});
        lengthsBack(bumps(at(1), at()), new int[][] {{0, 0}, {14, 0}, {15, 1}, {29, 1}, {30, 2}, {100000, 6666}});
        StoneRings three = by(threeSamples(), 1, 0);
        lengthsBack(three, new int[][] {{0, 0}, {1, 0}, {2, 1}, {3, 1}, {100000, 50000}});
    }

    private static void rings() {
        sentence("RINGS: APART (2 at first) and HIGH (5 at first)", StoneRingsRingBounds::ruleAtFirst);
        sentence("RINGS: From place 1", StoneRingsRingBounds::firstPlace);
        sentence("RINGS: up to the last but one", StoneRingsRingBounds::lastPlace);
        sentence("RINGS: From place 1 up to the last but one, on one to three SAMPLES", StoneRingsRingBounds::shortRays);
        sentence("RINGS: EVENED k is above EVENED k - 1", StoneRingsRingBounds::aboveBefore);
        sentence("RINGS: and not below EVENED k + 1", StoneRingsRingBounds::notBelowBehind);
        sentence("RINGS: k is APART or more behind the RING before (behind 0 for the first one)", StoneRingsRingBounds::apart);
        sentence("RINGS: EVENED k is at least HIGH more", StoneRingsRingBounds::high);
        sentence("RINGS: the least EVENED of the places from the RING before (from 0) up to k", StoneRingsRingBounds::leastFrom);
        sentence("RINGS: as many as there can be", StoneRingsRingBounds::mostRings);
        sentence("9: its place (what = 0), EVENED there (1), its WIDTH (2), 1 if it is FALSE (3)", StoneRingsRingBounds::whatOfRings);
        sentence("RINGS: Its WIDTH is how far it is behind the RING before (behind 0)", StoneRingsRingBounds::widths);
        sentence("RINGS: FALSE, if there is a RING before it and one behind it", StoneRingsRingBounds::falseEnds);
        sentence("RINGS: twice its WIDTH is below that of both", StoneRingsRingBounds::falseNarrow);
        sentence("12: FLOOR(length times the place of the RING, by that of the last SAMPLE)", StoneRingsRingBounds::lengthAtRings);
    }

    private static void joins() {
        sentence("JOINED: in rising order, one with one", StoneRingsRingBounds::oneWithOne);
        sentence("JOINED: the differences of the places (without sign)", StoneRingsRingBounds::withoutSign);
        sentence("JOINED: SKIP for each other RING of both; the least COST counts", StoneRingsRingBounds::skips);
        sentence("JOINED: as many RINGS as there can be", StoneRingsRingBounds::mostJoined);
        sentence("JOINED: of several ways that which puts both next ones together", StoneRingsRingBounds::puttingTogetherFirst);
        sentence("JOINED: or else leaves out that of the first ray", StoneRingsRingBounds::leavingOutTheFirst);
        sentence("11: by the latest join(); NONE if it was left out", StoneRingsRingBounds::latestJoin);
        sentence("11: the first ray had no such RING then", StoneRingsRingBounds::ringsThen);
    }

    public static void main(String[] args) {
        rings();
        joins();
        end();
    }
}
