/** The boundary cases of the readers, their counts, the fractions and the ages, each under the words of the document. */
public final class StoneRingsReaderBounds extends StoneRingsChecks {
    private static StoneRings unused() {
        return new StoneRings(1, 1);
    }

    /** The counts of one stone by readers 0 to 3; NONE for one that tells none. */
    private static StoneRings stone(int... counts) {
        StoneRings x = unused();
        tellStone(x, 0, counts);
        return x;
    }

    private static void tellStone(StoneRings x, int stone, int... counts) {
        for (int reader = 0; reader < counts.length; reader++) {
            if (counts[reader] != NONE) {
                x.tell(reader, stone, counts[reader]);
            }
        }
    }

    /** Readers 0 and 1 tell all stones: reader 1 counts 30, reader 0 as many of them as told alike, the others by so much more. */
    private static StoneRings pair(int alike, int more) {
        StoneRings x = unused();
        for (int stone = 0; stone < 20; stone++) {
            tellStone(x, stone, stone < alike ? 30 : 30 + more, 30);
        }
        return x;
    }

    private static void eachOnce() {
        StoneRings x = unused();
        for (int k = 0; k < 80; k++) {
            int reader = k / 20;
            int stone = k % 20;
            int counted = k % 61;
            thrown("tell(" + reader + ", " + stone + ", " + counted + ")", x, null, o -> o.tell(reader, stone, counted));
        }
        for (int k = 0; k < 80; k++) {
            int reader = k / 20;
            int stone = k % 20;
            thrown("tell(" + reader + ", " + stone + ", 1) again", x, STATE, o -> o.tell(reader, stone, 1));
            due("seen(" + reader + ", " + reader + ", " + stone + ")", x.seen(reader, reader, stone), k % 61);
        }
        due("count(1)", x.count(1), 20);
        due("count(2)", x.count(2), 80);
    }

    private static void toldBefore() {
        StoneRings x = unused();
        x.tell(1, 7, 0);
        thrown("the same count of 0 again", x, STATE, o -> o.tell(1, 7, 0));
        thrown("another count", x, STATE, o -> o.tell(1, 7, 60));
        thrown("another reader", x, null, o -> o.tell(2, 7, 0));
        thrown("another stone", x, null, o -> o.tell(1, 8, 60));
        due("seen(1, 1, 7)", x.seen(1, 1, 7), 0);
        due("seen(1, 1, 8)", x.seen(1, 1, 8), 60);
        due("count(2)", x.count(2), 3);
    }

    private static void mayAfterItsOwn() {
        StoneRings x = unused();
        x.tell(0, 3, 5);
        thrown("tell(1, 3, 61)", x, ARGUMENT, o -> o.tell(1, 3, 61));
        for (int k = 0; k < 80; k++) {
            due("may(" + k / 20 + ", " + k % 20 + ")", x.may(k / 20, k % 20), k == 3);
        }
        x.tell(1, 3, 0);
        due("may(1, 3) behind a count of 0", x.may(1, 3), true);
        due("may(1, 2)", x.may(1, 2), false);
    }

    private static void keptApart() {
        StoneRings x = unused();
        thrown("seen(0, 0, 3) with nothing told", x, STATE, o -> o.seen(0, 0, 3));
        x.tell(0, 3, 0);
        for (int reader = 1; reader < 4; reader++) {
            int r = reader;
            for (int other = 0; other < 4; other++) {
                int asked = other;
                thrown("seen(" + r + ", " + asked + ", 3)", x, STATE, o -> o.seen(r, asked, 3));
            }
        }
        thrown("seen(0, 0, 4): it told of another stone", x, STATE, o -> o.seen(0, 0, 4));
        due("seen(0, 0, 3), itself", x.seen(0, 0, 3), 0);
        due("seen(0, 3, 3), which told none", x.seen(0, 3, 3), NONE);
        x.tell(3, 3, 60);
        due("seen(0, 3, 3)", x.seen(0, 3, 3), 60);
        due("seen(3, 0, 3)", x.seen(3, 0, 3), 0);
        due("seen(3, 1, 3), which told none", x.seen(3, 1, 3), NONE);
        thrown("seen(1, 0, 3), which told none", x, STATE, o -> o.seen(1, 0, 3));
    }

    private static void agrees(String text, StoneRings x, int above, int below) {
        fraction(text + ": agree(0, 1", x.agree(0, 1, 0), x.agree(0, 1, 1), above, below);
        fraction(text + ": agree(1, 0", x.agree(1, 0, 0), x.agree(1, 0, 1), above, below);
    }

    private static void biases(String text, StoneRings x, int above, int below) {
        fraction(text + ": bias(0, 1", x.bias(0, 1, 0), x.bias(0, 1, 1), above, below);
        fraction(text + ": bias(1, 0", x.bias(1, 0, 0), x.bias(1, 0, 1), -above, below);
    }

    private static void nothingByWhich() {
        StoneRings x = unused();
        agrees("nothing told", x, 0, 1);
        biases("nothing told", x, 0, 1);
        fraction("itself, nothing told: agree(2, 2", x.agree(2, 2, 0), x.agree(2, 2, 1), 0, 1);
        x.tell(0, 0, 5);
        x.tell(1, 1, 9);
        agrees("no stone that both told", x, 0, 1);
        biases("no stone that both told", x, 0, 1);
        fraction("itself: agree(0, 0", x.agree(0, 0, 0), x.agree(0, 0, 1), 1, 1);
        fraction("itself: bias(0, 0", x.bias(0, 0, 0), x.bias(0, 0, 1), 0, 1);
    }

    private static void alike() {
        agrees("all of 20", pair(20, 1), 1, 1);
        agrees("19 of 20", pair(19, 1), 19, 20);
        agrees("1 of 20", pair(1, 1), 1, 20);
        agrees("none of 20", pair(0, 1), 0, 1);
        agrees("1 of 1, both 0", stone(0, 0), 1, 1);
        agrees("0 of 1, 0 and 1", stone(0, 1), 0, 1);
        agrees("0 of 1, 60 and 59", stone(60, 59), 0, 1);
        agrees("one alone", stone(5, NONE), 0, 1);
    }

    private static void commonDivisor() {
        agrees("12 of 20", pair(12, 1), 3, 5);
        agrees("10 of 20", pair(10, 1), 1, 2);
        agrees("15 of 20", pair(15, 1), 3, 4);
        agrees("7 of 20", pair(7, 1), 7, 20);
        biases("8 more of 20", pair(12, 1), 2, 5);
        biases("8 less of 20", pair(12, -1), -2, 5);
        biases("15 more of 20", pair(15, 3), 3, 4);
        biases("90 less of 20", pair(2, -5), -9, 2);
    }

    private static void howMuchMore() {
        biases("1 more of 20", pair(19, 1), 1, 20);
        biases("1 less of 20", pair(19, -1), -1, 20);
        biases("0 more of 20", pair(20, 1), 0, 1);
        biases("600 more of 20", pair(0, 30), 30, 1);
        biases("600 less of 20", pair(0, -30), -30, 1);
        biases("60 more of 1", stone(60, 0), 60, 1);
        biases("60 less of 1", stone(0, 60), -60, 1);
        biases("one alone", stone(60, NONE), 0, 1);
        StoneRings most = unused();
        for (int stone = 0; stone < 20; stone++) {
            tellStone(most, stone, 60, 0);
        }
        biases("1200 more of 20", most, 60, 1);
        StoneRings even = unused();
        tellStone(even, 0, 7, 3);
        tellStone(even, 19, 3, 7);
        biases("as much more as less", even, 0, 1);
    }

    private static void mostTold() {
        due("none", unused().told(0), NONE);
        due("one alone, 0", stone(0).told(0), 0);
        due("one alone, 60", stone(NONE, NONE, NONE, 60).told(0), 60);
        due("three of a greater one", stone(1, 9, 9, 9).told(0), 9);
        due("two of a greater one", stone(1, 9, 2, 9).told(0), 9);
        due("two of a greater one, of three readers", stone(60, 0, 60).told(0), 60);
        due("all the same", stone(4, 4, 4, 4).told(0), 4);
        due("another stone", stone(4, 4, 4, 4).told(1), NONE);
        StoneRings last = unused();
        tellStone(last, 19, 5, 6, 6);
        due("the last stone", last.told(19), 6);
        due("the last but one", last.told(18), NONE);
    }

    private static void leastOfSeveral() {
        due("two and two", stone(8, 3, 8, 3).told(0), 3);
        due("two and two, the other way", stone(3, 8, 3, 8).told(0), 3);
        due("two and two, one behind the other", stone(8, 8, 3, 3).told(0), 3);
        due("four others", stone(9, 7, 8, 6).told(0), 6);
        due("four others, rising", stone(6, 7, 8, 9).told(0), 6);
        due("60 and 0", stone(60, 0).told(0), 0);
        due("0 and 60", stone(0, 60).told(0), 0);
        StoneRings x = stone(8, 3);
        due("one and one", x.told(0), 3);
        x.tell(2, 0, 8);
        due("two and one", x.told(0), 8);
        x.tell(3, 0, 3);
        due("two and two, told one by one", x.told(0), 3);
    }

    private static void rightAre(String text, StoneRings x, int... right) {
        for (int reader = 0; reader < 4; reader++) {
            due(text + ": right(" + reader + ")", x.right(reader), right[reader]);
        }
    }

    private static void asTold() {
        rightAre("nothing told", unused(), 0, 0, 0, 0);
        rightAre("one alone", stone(NONE, NONE, 0, NONE), 0, 0, 1, 0);
        rightAre("two and two", stone(8, 3, 8, 3), 0, 1, 0, 1);
        rightAre("three and one", stone(8, 8, 3, 8), 1, 1, 0, 1);
        rightAre("all the same", stone(60, 60, 60, 60), 1, 1, 1, 1);
        rightAre("all stones", pair(0, 1), 0, 20, 0, 0);
        rightAre("all stones alike", pair(20, 1), 20, 20, 0, 0);
        rightAre("all but one", pair(19, 1), 19, 20, 0, 0);
    }

    private static void bestAre(String text, StoneRings x, int... readers) {
        for (int k = 0; k < 4; k++) {
            due(text + ": best(" + k + ")", x.best(k), readers[k]);
        }
    }

    private static void lesserOfTheSame() {
        bestAre("nothing told", unused(), 0, 1, 2, 3);
        bestAre("all the same", stone(5, 5, 5, 5), 0, 1, 2, 3);
        bestAre("the last one alone", stone(NONE, NONE, NONE, 5), 3, 0, 1, 2);
        bestAre("two and two", stone(8, 3, 8, 3), 1, 3, 0, 2);
        bestAre("the least of four", stone(9, 8, 7, 6), 3, 0, 1, 2);
        StoneRings x = unused();
        for (int reader = 0; reader < 4; reader++) {
            for (int k = 0; k < reader; k++) {
                x.tell(reader, reader * 4 + k, 1);
            }
        }
        rightAre("0, 1, 2 and 3", x, 0, 1, 2, 3);
        bestAre("0, 1, 2 and 3", x, 3, 2, 1, 0);
        bestAre("20 and 20", pair(20, 1), 0, 1, 2, 3);
        bestAre("19 and 20", pair(19, 1), 1, 0, 2, 3);
    }

    private static void ages(int counted, int[][] asked) {
        StoneRings x = counted == NONE ? unused() : stone(counted);
        for (int[] a : asked) {
            due(counted + " told: age(0, " + a[0] + ", " + a[1] + ")", x.age(0, a[0], a[1]), a[2]);
        }
    }

    private static void beforeTheBirthday() {
        ages(7, new int[][] {{0, 0, 7}, {0, 1, 6}, {1, 0, 7}, {1, 1, 7}, {363, 364, 6}, {364, 364, 7}, {364, 363, 7}, {0, 364, 6}, {364, 0, 7}});
        ages(60, new int[][] {{0, 364, 59}, {364, 364, 60}});
    }

    private static void notBelowZero() {
        ages(0, new int[][] {{0, 364, 0}, {0, 1, 0}, {364, 364, 0}, {1, 0, 0}});
        ages(1, new int[][] {{0, 364, 0}, {0, 1, 0}, {364, 364, 1}, {1, 0, 1}});
    }

    private static void notTold() {
        ages(NONE, new int[][] {{0, 0, NONE}, {0, 364, NONE}, {364, 0, NONE}, {364, 364, NONE}});
        StoneRings x = unused();
        thrown("age(0, 365, 0) of a stone that is not told", x, ARGUMENT, o -> o.age(0, 365, 0));
        thrown("age(0, 0, -1) of a stone that is not told", x, ARGUMENT, o -> o.age(0, 0, -1));
    }

    private static void ageByMost() {
        due("two of a greater one", stone(9, 4, 9, 5).age(0, 10, 11), 8);
        due("two and two", stone(9, 4, 9, 4).age(0, 10, 11), 3);
    }

    private static void countsAre(String text, StoneRings x, int rays, int stones, int counts, int sum) {
        int[] due = {rays, stones, counts, sum};
        for (int what = 0; what < 4; what++) {
            due(text + ": count(" + what + ")", x.count(what), due[what]);
        }
    }

    private static void howMany() {
        StoneRings x = unused();
        countsAre("nothing", x, 0, 0, 0, 0);
        x.tell(3, 19, 0);
        countsAre("a count of 0", x, 0, 1, 1, 0);
        x.tell(0, 19, 0);
        countsAre("another one of that stone", x, 0, 1, 2, 0);
        x.tell(0, 0, 60);
        countsAre("another stone", x, 0, 2, 3, 0);
        x.pixel(0, 0, 255);
        x.pixel(0, 0, 1);
        countsAre("a pixel", x, 0, 2, 3, 1);
        x.ray(1, 0);
        countsAre("a ray", x, 1, 2, 3, 1);
        for (int what : new int[] {LEAST, -2, -1, 4, 5, MOST}) {
            due("count(" + what + ")", x.count(what), NONE);
        }
    }

    public static void main(String[] args) {
        sentence("READERS 0 .. 3 tell counts of STONES 0 .. 19, each once: all of them", StoneRingsReaderBounds::eachOnce);
        sentence("13: it told one of that STONE before", StoneRingsReaderBounds::toldBefore);
        sentence("14: it told its own", StoneRingsReaderBounds::mayAfterItsOwn);
        sentence("15: (or itself); NONE if that one told none; it may not", StoneRingsReaderBounds::keptApart);
        sentence("Fractions: 0 / 1 if there is nothing by which it could be", StoneRingsReaderBounds::nothingByWhich);
        sentence("16: Two READERS agree on a STONE that both told alike", StoneRingsReaderBounds::alike);
        sentence("Fractions: without a common divisor, below 1 at least", StoneRingsReaderBounds::commonDivisor);
        sentence("17: of all STONES that both told (below 0 if it is less)", StoneRingsReaderBounds::howMuchMore);
        sentence("TOLD of a STONE is the count that most READERS told; 18: NONE", StoneRingsReaderBounds::mostTold);
        sentence("TOLD: of several the least", StoneRingsReaderBounds::leastOfSeveral);
        sentence("19: RIGHT is how many STONES it told as TOLD is", StoneRingsReaderBounds::asTold);
        sentence("20: the greatest RIGHT first, of the same the lesser one", StoneRingsReaderBounds::lesserOfTheSame);
        sentence("21: one less if the day is before the birthday", StoneRingsReaderBounds::beforeTheBirthday);
        sentence("21: but not below 0", StoneRingsReaderBounds::notBelowZero);
        sentence("21: NONE if it is not TOLD", StoneRingsReaderBounds::notTold);
        sentence("21: The age is by TOLD", StoneRingsReaderBounds::ageByMost);
        sentence("23: rays, STONES that anyone told, counts, the sum of all pixels; NONE for another what", StoneRingsReaderBounds::howMany);
        end();
    }
}
