/** Promise by promise: ordinary inputs, the edges that the document names, and wrong inputs. */
public final class StoneRingsPromises extends StoneRingsChecks {
    private static void promise1() {
        int[][] sides = {{0, 0, 1, 1}, {1, 16, 1, 16}, {17, 2, 16, 2}, {LEAST, MOST, 1, 16}, {MOST, LEAST, 16, 1}, {-1, 15, 1, 15}};
        for (int[] s : sides) {
            StoneRings x = new StoneRings(s[0], s[1]);
            String made = "1: new StoneRings(" + s[0] + ", " + s[1] + ")";
            due(made + " far corner", x.pixel(s[2] - 1, s[3] - 1, 1), true);
            thrown(made + " behind the right side", x, INDEX, o -> o.pixel(s[2], 0, 1));
            thrown(made + " below", x, INDEX, o -> o.pixel(0, s[3], 1));
        }
        StoneRings x = new StoneRings(4, 4);
        for (int what = 0; what < 4; what++) {
            due("1: count(" + what + ")", x.count(what), 0);
        }
        due("1: middle(0)", x.middle(0), NONE);
        due("1: told(0)", x.told(0), NONE);
        thrown("1: rings(0)", x, INDEX, o -> o.rings(0));
        thrown("1: joined(0)", x, STATE, o -> o.joined(0));
    }

    private static void promise2() {
        StoneRings x = new StoneRings(3, 2);
        due("2: pixel(2, 1, 0)", x.pixel(2, 1, 0), false);
        due("2: pixel(2, 1, 255)", x.pixel(2, 1, 255), true);
        due("2: pixel(2, 1, 255) again", x.pixel(2, 1, 255), false);
        due("2: pixel(1, 0, 5)", x.pixel(1, 0, 5), true);
        due("2: count(3)", x.count(3), 260);
        due("2: pixel(2, 1, 0)", x.pixel(2, 1, 0), true);
        due("2: count(3)", x.count(3), 5);
        refused("2: pixel(-1, 0, 1)", INDEX, o -> o.pixel(-1, 0, 1));
        refused("2: pixel(16, 0, 1)", INDEX, o -> o.pixel(16, 0, 1));
        refused("2: pixel(0, -1, 1)", INDEX, o -> o.pixel(0, -1, 1));
        refused("2: pixel(0, 16, 1)", INDEX, o -> o.pixel(0, 16, 1));
        refused("2: pixel(LEAST, MOST, 1)", INDEX, o -> o.pixel(LEAST, MOST, 1));
        refused("2: pixel(16, 0, 256), the index first", INDEX, o -> o.pixel(16, 0, 256));
        refused("2: pixel(0, 0, 256)", ARGUMENT, o -> o.pixel(0, 0, 256));
        refused("2: pixel(0, 0, -1)", ARGUMENT, o -> o.pixel(0, 0, -1));
    }

    private static void promise3() {
        StoneRings x = new StoneRings(4, 3);
        x.pixel(3, 0, 1);
        due("3: middle(0) of one pixel", x.middle(0), 3);
        due("3: middle(1) of one pixel", x.middle(1), 0);
        x.pixel(0, 2, 2);
        due("3: middle(0), 3 by 3", x.middle(0), 1);
        due("3: middle(1), 4 by 3", x.middle(1), 1);
        x.pixel(0, 0, 1);
        due("3: middle(0), 3 by 4", x.middle(0), 0);
        due("3: middle(1), 4 by 4", x.middle(1), 1);
        x.pixel(3, 0, 0);
        x.pixel(0, 2, 0);
        x.pixel(0, 0, 0);
        due("3: middle(0) of nothing", x.middle(0), NONE);
        due("3: middle(1) of nothing", x.middle(1), NONE);
        thrown("3: middle(2) of nothing", x, INDEX, o -> o.middle(2));
        refused("3: middle(2)", INDEX, o -> o.middle(2));
        refused("3: middle(-1)", INDEX, o -> o.middle(-1));
    }

    private static void promise4() {
        StoneRings x = new StoneRings(4, 3);
        int[][] directions = {{5, -5}, {-5, 5}, {0, 1}, {1, 0}, {1, 0}, {-1, -1}, {2, 3}, {5, 5}};
        for (int k = 0; k < 8; k++) {
            due("4: count(0)", x.count(0), k);
            int[] d = directions[k];
            thrown("4: ray(6, 0)", x, ARGUMENT, o -> o.ray(6, 0));
            due("4: ray(" + d[0] + ", " + d[1] + ")", x.ray(d[0], d[1]), k);
        }
        refused("4: a ninth ray", STATE, o -> o.ray(1, 1));
        refused("4: ray(0, 0), the argument first", ARGUMENT, o -> o.ray(0, 0));
        refused("4: ray(-6, 0)", ARGUMENT, o -> o.ray(-6, 0));
        refused("4: ray(0, 6)", ARGUMENT, o -> o.ray(0, 6));
        refused("4: ray(0, -6)", ARGUMENT, o -> o.ray(0, -6));
        refused("4: ray(MOST, LEAST)", ARGUMENT, o -> o.ray(MOST, LEAST));
        thrown("4: ray(0, 0) with room", new StoneRings(1, 1), ARGUMENT, o -> o.ray(0, 0));
    }

    private static void promise5() {
        StoneRings x = new StoneRings(16, 10);
        int[][] rays = {{5, 0, 8}, {-1, 0, 9}, {0, -3, 3}, {0, 1, 8}, {1, 1, 8}, {-1, -1, 3}, {5, 1, 8}, {2, -1, 6}};
        for (int k = 0; k < 8; k++) {
            x.ray(rays[k][0], rays[k][1]);
            due("5: samples(" + k + ") without a middle", x.samples(k), 0);
        }
        x.pixel(8, 2, 1);
        for (int k = 0; k < 8; k++) {
            due("5: samples(" + k + ")", x.samples(k), rays[k][2]);
        }
        x.pixel(0, 2, 255);
        due("5: samples(0) from another middle", x.samples(0), 16);
        due("5: samples(1) from another middle", x.samples(1), 1);
        refused("5: samples(8)", INDEX, o -> o.samples(8));
        refused("5: samples(-1)", INDEX, o -> o.samples(-1));
        thrown("5: samples(0) without rays", new StoneRings(2, 2), INDEX, o -> o.samples(0));
    }

    private static void promise6() {
        StoneRings x = new StoneRings(9, 9);
        x.pixel(4, 4, 200);
        x.pixel(4, 8, 4);
        int[][] marks = {{5, 5}, {6, 5}, {7, 6}, {8, 6}, {5, 4}, {6, 3}, {7, 3}, {8, 2}};
        for (int k = 0; k < 8; k++) {
            x.pixel(marks[k][0], marks[k][1], k + 1);
        }
        due("6: middle(0)", x.middle(0), 4);
        due("6: middle(1)", x.middle(1), 4);
        x.ray(2, 1);
        x.ray(2, -1);
        int[] evened = {150, 51, 2, 3, 4};
        for (int k = 0; k < 5; k++) {
            due("6: sample(0, " + k + ", false)", x.sample(0, k, false), k == 0 ? 200 : k);
            due("6: sample(1, " + k + ", false)", x.sample(1, k, false), k == 0 ? 200 : k + 4);
            due("6: sample(0, " + k + ", true)", x.sample(0, k, true), evened[k]);
        }
        StoneRings one = new StoneRings(1, 1);
        one.pixel(0, 0, 77);
        one.ray(1, 0);
        due("6: the evened one that stands alone", one.sample(0, 0, true), 77);
        refused("6: sample(0, 16, false)", INDEX, o -> o.sample(0, 16, false));
        refused("6: sample(0, -1, true)", INDEX, o -> o.sample(0, -1, true));
        refused("6: sample(8, 0, true)", INDEX, o -> o.sample(8, 0, true));
        refused("6: sample(2, 1, false) on a short ray", INDEX, o -> o.sample(2, 1, false));
        refused("6: sample(LEAST, MOST, true)", INDEX, o -> o.sample(LEAST, MOST, true));
    }

    private static void promise7() {
        StoneRings x = twoRays();
        int[][] rules = {{2, 2, 3}, {3, 2, 2}, {2, 3, 2}, {1, 0, 3}, {10, 255, 0}, {10, 0, 1}, {5, 8, 2}, {5, 9, 1}, {6, 2, 1}};
        for (int[] r : rules) {
            x.rule(r[0], r[1]);
            due("7: rings(0) by rule(" + r[0] + ", " + r[1] + ")", x.rings(0), r[2]);
        }
        refused("7: rule(0, 5)", ARGUMENT, o -> o.rule(0, 5));
        refused("7: rule(11, 5)", ARGUMENT, o -> o.rule(11, 5));
        refused("7: rule(3, -1)", ARGUMENT, o -> o.rule(3, -1));
        refused("7: rule(3, 256)", ARGUMENT, o -> o.rule(3, 256));
        refused("7: rule(LEAST, MOST)", ARGUMENT, o -> o.rule(LEAST, MOST));
    }

    private static void promise8() {
        StoneRings x = line(13, 0, 0, 0, 6, 12, 0, 12, 6, 0, 0, 12, 12, 12, 12, 12);
        ringsAt("8: the rule at first", x, 5, 12);
        ringsAt("8: just 2 apart and 5 high", line(0, 0, 9, 0, 0, 0, 0, 0, 0, 0, 0, 0, 0, 0, 0, 0), 2);
        ringsAt("8: 2 apart and 4 high", line(0, 0, 8, 0, 0, 0, 0, 0, 0, 0, 0, 0, 0, 0, 0, 0));
        ringsAt("8: 1 apart and 7 high", line(0, 30, 0, 0, 0, 0, 0, 0, 0, 0, 0, 0, 0, 0, 0, 0));
        x.rule(2, 2);
        ringsAt("8: as far apart and as high as the rule asks", x, 5, 7, 12);
        x.rule(3, 2);
        ringsAt("8: one that is too near does not count as the one before", x, 5, 12);
        StoneRings many = sevenRings();
        ringsAt("8: seven", many, 1, 3, 5, 7, 9, 11, 13);
        many.rule(2, 0);
        ringsAt("8: the first one is apart from 0", many, 3, 5, 7, 9, 11, 13);
        StoneRings ends = line(12, 0, 0, 0, 0, 0, 0, 0, 0, 0, 0, 0, 0, 0, 12, 0);
        ringsAt("8: not at 0, but at the last but one", ends, 14);
        ringsAt("8: not at the last one", line(0, 0, 0, 0, 0, 0, 0, 0, 0, 0, 0, 0, 0, 0, 0, 12));
        ringsAt("8: a flat top counts where it begins", line(0, 0, 0, 0, 20, 20, 20, 20, 0, 0, 0, 0, 0, 0, 0, 0), 5);
        ringsAt("8: a flat step is none", line(0, 0, 0, 0, 20, 20, 20, 20, 40, 40, 40, 40, 40, 40, 40, 0), 5, 9);
        StoneRings empty = new StoneRings(5, 5);
        empty.ray(1, 1);
        due("8: rings(0) without a middle", empty.rings(0), 0);
        refused("8: rings(8)", INDEX, o -> o.rings(8));
        refused("8: rings(-1)", INDEX, o -> o.rings(-1));
    }

    private static void promise9() {
        StoneRings x = twoRays();
        int[][] rings = {{5, 8, 5, 0}, {7, 8, 2, 1}, {12, 12, 5, 0}};
        for (int k = 0; k < 3; k++) {
            for (int what = 0; what < 4; what++) {
                due("9: ring(0, " + k + ", " + what + ")", x.ring(0, k, what), rings[k][what]);
            }
        }
        x.pixel(10, 7, 12);
        due("9: ring(0, 2, 0), nearer", x.ring(0, 2, 0), 11);
        due("9: ring(0, 1, 3): twice 2 is not below 4", x.ring(0, 1, 3), 0);
        x.pixel(10, 7, 0);
        due("9: ring(0, 1, 3) again", x.ring(0, 1, 3), 1);
        row(x, 7, 10, 0, 0, 0, 0, 0, 0);
        due("9: rings(0) without the third one", x.rings(0), 2);
        due("9: ring(0, 1, 3) without the third one", x.ring(0, 1, 3), 0);
        StoneRings two = line(13, 0, 0, 0, 6, 12, 0, 12, 6, 0, 0, 0, 0, 0, 0, 0);
        two.rule(2, 2);
        due("9: rings(0)", two.rings(0), 2);
        due("9: the last one is not false", two.ring(0, 1, 3), 0);
        StoneRings early = line(0, 0, 0, 6, 12, 0, 12, 6, 0, 0, 12, 12, 12, 12, 12, 12);
        early.rule(2, 2);
        ringsAt("9: early", early, 4, 6, 11);
        due("9: ring(0, 1, 3): twice 2 is not below the 4 before", early.ring(0, 1, 3), 0);
        StoneRings first = line(0, 30, 0, 0, 0, 0, 0, 30, 0, 0, 0, 0, 0, 0, 0, 0);
        first.rule(1, 0);
        due("9: ring(0, 0, 2)", first.ring(0, 0, 2), 1);
        due("9: the first one is not false", first.ring(0, 0, 3), 0);
        refused("9: ring(0, 3, 0)", INDEX, o -> o.ring(0, 3, 0));
        refused("9: ring(0, -1, 0)", INDEX, o -> o.ring(0, -1, 0));
        refused("9: ring(0, 0, 4)", INDEX, o -> o.ring(0, 0, 4));
        refused("9: ring(0, 0, -1)", INDEX, o -> o.ring(0, 0, -1));
        refused("9: ring(8, 0, 0)", INDEX, o -> o.ring(8, 0, 0));
        refused("9: ring(MOST, LEAST, MOST)", INDEX, o -> o.ring(MOST, LEAST, MOST));
    }

    /** Ray 0 has rings at 5, 7 and 12, ray 1 at 6 and 12. */
    private static void promise10() {
        StoneRings x = twoRays();
        joinsAs(x, 0, 1, 3, 4, 0, -1, 1);
        joinsAs(x, 1, 0, 3, 4, 0, 2);
        joinsAs(x, 0, 1, 50, 51, 0, -1, 1);
        joinsAs(x, 0, 0, 50, 0, 0, 1, 2);
        joinsAs(x, 0, 0, 0, 0, 0, 1, 2);
        // Nothing costs anything: 5 and 7 are left out, and of 12 or the second ray's 6 that of the first ray.
        joinsAs(x, 0, 1, 0, 0, -1, -1, -1);
        x.ray(-1, 0);
        joinsAs(x, 0, 2, 7, 21, -1, -1, -1);
        joinsAs(x, 2, 0, 7, 21);
        x.rule(8, 2);
        // 12 and 12 now, then 12 and 8: leaving both out costs as much as putting them together at twice the skip.
        joinsAs(x, 0, 1, 1, 0, 0);
        row(x, 8, 5, 0, 0, 6);
        row(x, 9, 8, 12, 6, 0, 0, 0);
        row(x, 10, 13, 0);
        due("10: ring(1, 0, 0)", x.ring(1, 0, 0), 8);
        joinsAs(x, 0, 1, 2, 4, 0);
        joinsAs(x, 0, 1, 1, 2, -1);
        refused("10: join(8, 0, 1)", INDEX, o -> o.join(8, 0, 1));
        refused("10: join(0, 8, 1)", INDEX, o -> o.join(0, 8, 1));
        refused("10: join(-1, 0, 1)", INDEX, o -> o.join(-1, 0, 1));
        refused("10: join(0, -1, 1)", INDEX, o -> o.join(0, -1, 1));
        refused("10: join(0, 8, 51), the index first", INDEX, o -> o.join(0, 8, 51));
        refused("10: join(1, 0, 51)", ARGUMENT, o -> o.join(1, 0, 51));
        refused("10: join(1, 0, -1)", ARGUMENT, o -> o.join(1, 0, -1));
    }

    private static void promise11() {
        StoneRings x = twoRays();
        thrown("11: joined(0) before any join", x, STATE, o -> o.joined(0));
        thrown("11: joined(-1) before any join, the state first", x, STATE, o -> o.joined(-1));
        x.join(0, 1, 3);
        x.rule(10, 255);
        x.pixel(0, 0, 0);
        due("11: rings(0)", x.rings(0), 0);
        due("11: joined(0) as it was", x.joined(0), 0);
        due("11: joined(1) as it was", x.joined(1), NONE);
        due("11: joined(2) as it was", x.joined(2), 1);
        refused("11: joined(3)", INDEX, o -> o.joined(3));
        refused("11: joined(-1)", INDEX, o -> o.joined(-1));
        refused("11: joined(MOST)", INDEX, o -> o.joined(MOST));
    }

    private static void promise12() {
        StoneRings x = twoRays();
        due("12: back(0, 0, 1000)", x.back(0, 0, 1000), 333);
        due("12: back(0, 1, 100)", x.back(0, 1, 100), 46);
        due("12: back(0, 2, 100000)", x.back(0, 2, 100000), 80000);
        due("12: back(0, 2, 0)", x.back(0, 2, 0), 0);
        refused("12: back(0, 0, 100001)", ARGUMENT, o -> o.back(0, 0, 100001));
        refused("12: back(0, 0, -1)", ARGUMENT, o -> o.back(0, 0, -1));
        refused("12: back(0, 3, -1), the index first", INDEX, o -> o.back(0, 3, -1));
        refused("12: back(0, -1, 5)", INDEX, o -> o.back(0, -1, 5));
        refused("12: back(8, 0, 5)", INDEX, o -> o.back(8, 0, 5));
        refused("12: back(2, 0, 5) on a ray without rings", INDEX, o -> o.back(2, 0, 5));
    }

    private static void promise13() {
        StoneRings x = new StoneRings(1, 1);
        x.tell(3, 19, 60);
        x.tell(0, 0, 0);
        due("13: seen(3, 3, 19)", x.seen(3, 3, 19), 60);
        due("13: seen(0, 0, 0)", x.seen(0, 0, 0), 0);
        thrown("13: tell(0, 0, 1) behind a count of 0", x, STATE, o -> o.tell(0, 0, 1));
        due("13: count(2)", x.count(2), 2);
        refused("13: tell(4, 0, 1)", INDEX, o -> o.tell(4, 0, 1));
        refused("13: tell(-1, 1, 1)", INDEX, o -> o.tell(-1, 1, 1));
        refused("13: tell(0, 20, 1)", INDEX, o -> o.tell(0, 20, 1));
        refused("13: tell(1, -1, 1)", INDEX, o -> o.tell(1, -1, 1));
        refused("13: tell(0, 20, 61), the index first", INDEX, o -> o.tell(0, 20, 61));
        refused("13: tell(2, 0, 61)", ARGUMENT, o -> o.tell(2, 0, 61));
        refused("13: tell(2, 0, -1)", ARGUMENT, o -> o.tell(2, 0, -1));
        refused("13: tell(0, 0, 61), the argument first", ARGUMENT, o -> o.tell(0, 0, 61));
        refused("13: tell(0, 0, 3) again", STATE, o -> o.tell(0, 0, 3));
    }

    private static void promise14() {
        StoneRings x = new StoneRings(1, 1);
        due("14: may(2, 5)", x.may(2, 5), false);
        x.tell(2, 5, 0);
        due("14: may(2, 5) behind its own count", x.may(2, 5), true);
        due("14: may(1, 5)", x.may(1, 5), false);
        due("14: may(2, 4)", x.may(2, 4), false);
        refused("14: may(4, 0)", INDEX, o -> o.may(4, 0));
        refused("14: may(-1, 0)", INDEX, o -> o.may(-1, 0));
        refused("14: may(0, 20)", INDEX, o -> o.may(0, 20));
        refused("14: may(0, -1)", INDEX, o -> o.may(0, -1));
    }

    private static void promise15() {
        StoneRings x = new StoneRings(1, 1);
        x.tell(2, 5, 7);
        due("15: seen(2, 1, 5)", x.seen(2, 1, 5), NONE);
        due("15: seen(2, 2, 5)", x.seen(2, 2, 5), 7);
        thrown("15: seen(1, 2, 5)", x, STATE, o -> o.seen(1, 2, 5));
        thrown("15: seen(2, 2, 6)", x, STATE, o -> o.seen(2, 2, 6));
        x.tell(1, 5, 0);
        due("15: seen(1, 2, 5)", x.seen(1, 2, 5), 7);
        due("15: seen(2, 1, 5)", x.seen(2, 1, 5), 0);
        refused("15: seen(4, 0, 0)", INDEX, o -> o.seen(4, 0, 0));
        refused("15: seen(-1, 0, 0)", INDEX, o -> o.seen(-1, 0, 0));
        refused("15: seen(3, 4, 0), the index first", INDEX, o -> o.seen(3, 4, 0));
        refused("15: seen(0, -1, 0)", INDEX, o -> o.seen(0, -1, 0));
        refused("15: seen(0, 0, 20)", INDEX, o -> o.seen(0, 0, 20));
        refused("15: seen(0, 0, -1)", INDEX, o -> o.seen(0, 0, -1));
        refused("15: seen(3, 0, 0)", STATE, o -> o.seen(3, 0, 0));
    }

    /** Of stones 0 to 3 readers 0 and 1 told both; of 4 and 5 one of them each. */
    private static StoneRings readers() {
        StoneRings x = new StoneRings(1, 1);
        int[][] counts = {{5, 3, 0, 9, 8, -1, 7}, {5, 4, 0, 3, -1, 8, -1}, {-1, 4, -1, 5, -1, 8, 7}};
        for (int reader = 0; reader < counts.length; reader++) {
            for (int stone = 0; stone < 7; stone++) {
                if (counts[reader][stone] >= 0) {
                    x.tell(reader, stone, counts[reader][stone]);
                }
            }
        }
        return x;
    }

    private static void promise16() {
        StoneRings x = readers();
        fraction("16: agree(0, 1", x.agree(0, 1, 0), x.agree(0, 1, 1), 1, 2);
        fraction("16: agree(1, 2", x.agree(1, 2, 0), x.agree(1, 2, 1), 2, 3);
        fraction("16: agree(2, 0", x.agree(2, 0, 0), x.agree(2, 0, 1), 1, 3);
        fraction("16: agree(0, 0", x.agree(0, 0, 0), x.agree(0, 0, 1), 1, 1);
        fraction("16: agree(0, 3", x.agree(0, 3, 0), x.agree(0, 3, 1), 0, 1);
        x.tell(3, 0, 6);
        x.tell(3, 1, 6);
        fraction("16: agree(0, 3", x.agree(0, 3, 0), x.agree(0, 3, 1), 0, 1);
        refused("16: agree(4, 0, 0)", INDEX, o -> o.agree(4, 0, 0));
        refused("16: agree(0, 4, 0)", INDEX, o -> o.agree(0, 4, 0));
        refused("16: agree(-1, 0, 0)", INDEX, o -> o.agree(-1, 0, 0));
        refused("16: agree(0, -1, 0)", INDEX, o -> o.agree(0, -1, 0));
        refused("16: agree(0, 1, 2)", INDEX, o -> o.agree(0, 1, 2));
        refused("16: agree(0, 1, -1)", INDEX, o -> o.agree(0, 1, -1));
    }

    private static void promise17() {
        StoneRings x = readers();
        fraction("17: bias(0, 1", x.bias(0, 1, 0), x.bias(0, 1, 1), 5, 4);
        fraction("17: bias(1, 0", x.bias(1, 0, 0), x.bias(1, 0, 1), -5, 4);
        fraction("17: bias(0, 2", x.bias(0, 2, 0), x.bias(0, 2, 1), 1, 1);
        fraction("17: bias(2, 0", x.bias(2, 0, 0), x.bias(2, 0, 1), -1, 1);
        fraction("17: bias(1, 2", x.bias(1, 2, 0), x.bias(1, 2, 1), -2, 3);
        fraction("17: bias(1, 1", x.bias(1, 1, 0), x.bias(1, 1, 1), 0, 1);
        fraction("17: bias(0, 3", x.bias(0, 3, 0), x.bias(0, 3, 1), 0, 1);
        refused("17: bias(4, 0, 0)", INDEX, o -> o.bias(4, 0, 0));
        refused("17: bias(0, 4, 0)", INDEX, o -> o.bias(0, 4, 0));
        refused("17: bias(-1, 0, 0)", INDEX, o -> o.bias(-1, 0, 0));
        refused("17: bias(0, -1, 0)", INDEX, o -> o.bias(0, -1, 0));
        refused("17: bias(0, 1, 2)", INDEX, o -> o.bias(0, 1, 2));
        refused("17: bias(0, 1, -1)", INDEX, o -> o.bias(0, 1, -1));
    }

    private static void promise18() {
        StoneRings x = readers();
        int[] told = {5, 4, 0, 3, 8, 8, 7, -1};
        for (int stone = 0; stone < told.length; stone++) {
            due("18: told(" + stone + ")", x.told(stone), told[stone]);
        }
        x.tell(3, 1, 3);
        due("18: told(1) of two and two", x.told(1), 3);
        x.tell(3, 3, 9);
        due("18: told(3), most before least", x.told(3), 9);
        due("18: told(19)", x.told(19), NONE);
        refused("18: told(20)", INDEX, o -> o.told(20));
        refused("18: told(-1)", INDEX, o -> o.told(-1));
    }

    private static void promise19() {
        StoneRings x = readers();
        int[] right = {4, 5, 3, 0};
        for (int reader = 0; reader < 4; reader++) {
            due("19: right(" + reader + ")", x.right(reader), right[reader]);
        }
        x.tell(3, 3, 9);
        due("19: right(0)", x.right(0), 5);
        due("19: right(1)", x.right(1), 4);
        due("19: right(3)", x.right(3), 1);
        refused("19: right(4)", INDEX, o -> o.right(4));
        refused("19: right(-1)", INDEX, o -> o.right(-1));
    }

    private static void bestAre(StoneRings x, int... readers) {
        for (int k = 0; k < 4; k++) {
            due("20: best(" + k + ")", x.best(k), readers[k]);
        }
    }

    private static void promise20() {
        StoneRings x = new StoneRings(1, 1);
        bestAre(x, 0, 1, 2, 3);
        x.tell(3, 0, 1);
        bestAre(x, 3, 0, 1, 2);
        x.tell(1, 1, 1);
        bestAre(x, 1, 3, 0, 2);
        x.tell(3, 2, 1);
        bestAre(x, 3, 1, 0, 2);
        bestAre(readers(), 1, 0, 2, 3);
        refused("20: best(4)", INDEX, o -> o.best(4));
        refused("20: best(-1)", INDEX, o -> o.best(-1));
    }

    private static void promise21() {
        StoneRings x = readers();
        due("21: age(0, 10, 11)", x.age(0, 10, 11), 4);
        due("21: age(0, 11, 11)", x.age(0, 11, 11), 5);
        due("21: age(0, 364, 0)", x.age(0, 364, 0), 5);
        due("21: age(0, 0, 364)", x.age(0, 0, 364), 4);
        due("21: age(2, 0, 364), not below 0", x.age(2, 0, 364), 0);
        due("21: age(2, 0, 0)", x.age(2, 0, 0), 0);
        due("21: age(9, 0, 364), not told", x.age(9, 0, 364), NONE);
        thrown("21: age(9, 365, 0), not told", x, ARGUMENT, o -> o.age(9, 365, 0));
        refused("21: age(0, 365, 1)", ARGUMENT, o -> o.age(0, 365, 1));
        refused("21: age(0, -1, 1)", ARGUMENT, o -> o.age(0, -1, 1));
        refused("21: age(0, 1, 365)", ARGUMENT, o -> o.age(0, 1, 365));
        refused("21: age(0, 1, -1)", ARGUMENT, o -> o.age(0, 1, -1));
        refused("21: age(20, 365, 1), the index first", INDEX, o -> o.age(20, 365, 1));
        refused("21: age(-1, 1, 1)", INDEX, o -> o.age(-1, 1, 1));
    }

    private static void promise22() {
        StoneRings x = new StoneRings(5, 5);
        x.ray(1, 0);
        x.ray(-1, 0);
        x.ray(0, 3);
        x.ray(1, 1);
        due("22: twin(0, 3) without a middle", x.twin(0, 3), true);
        x.pixel(2, 2, 9);
        x.pixel(3, 2, 4);
        x.pixel(1, 2, 4);
        due("22: twin(0, 1), other pixels that are the same", x.twin(0, 1), true);
        due("22: twin(0, 2)", x.twin(0, 2), false);
        due("22: twin(2, 3)", x.twin(2, 3), true);
        due("22: twin(0, 0)", x.twin(0, 0), true);
        x.pixel(4, 2, 1);
        x.pixel(0, 2, 1);
        due("22: twin(1, 0)", x.twin(1, 0), true);
        x.pixel(4, 2, 2);
        due("22: twin(0, 1), the last one is another", x.twin(0, 1), false);
        StoneRings shorter = new StoneRings(4, 1);
        shorter.pixel(1, 0, 5);
        shorter.ray(1, 0);
        shorter.ray(-1, 0);
        due("22: twin(0, 1), more samples", shorter.twin(0, 1), false);
        due("22: twin(1, 0), fewer samples", shorter.twin(1, 0), false);
        refused("22: twin(8, 0)", INDEX, o -> o.twin(8, 0));
        refused("22: twin(0, 8)", INDEX, o -> o.twin(0, 8));
        refused("22: twin(-1, 0)", INDEX, o -> o.twin(-1, 0));
        refused("22: twin(0, -1)", INDEX, o -> o.twin(0, -1));
    }

    private static void promise23() {
        StoneRings x = used();
        due("23: count(0)", x.count(0), 8);
        due("23: count(1)", x.count(1), 2);
        due("23: count(2)", x.count(2), 3);
        due("23: count(3)", x.count(3), 14 * 255 - 33 + 109 + 48);
        due("23: count(4)", x.count(4), NONE);
        due("23: count(-1)", x.count(-1), NONE);
        due("23: count(LEAST)", x.count(LEAST), NONE);
        due("23: count(MOST)", x.count(MOST), NONE);
        StoneRings full = new StoneRings(1, 1);
        for (int k = 0; k < 80; k++) {
            full.tell(k % 4, k / 4, k % 61);
        }
        due("23: count(1) of all", full.count(1), 20);
        due("23: count(2) of all", full.count(2), 80);
    }

    public static void main(String[] args) {
        promise1();
        promise2();
        promise3();
        promise4();
        promise5();
        promise6();
        promise7();
        promise8();
        promise9();
        promise10();
        promise11();
        promise12();
        promise13();
        promise14();
        promise15();
        promise16();
        promise17();
        promise18();
        promise19();
        promise20();
        promise21();
        promise22();
        promise23();
        end();
    }
}
