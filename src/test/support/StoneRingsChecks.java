/** What the tests share: how an answer is checked, and pictures whose rings are known. */
class StoneRingsChecks {
    static final Class<?> INDEX = IndexOutOfBoundsException.class;
    static final Class<?> ARGUMENT = IllegalArgumentException.class;
    static final Class<?> STATE = IllegalStateException.class;
    static final int NONE = StoneRings.NONE;
    static final int LEAST = Integer.MIN_VALUE;
    static final int MOST = Integer.MAX_VALUE;

    private static int wrong = 0;
    private static int sentences = 0;
    private static String words = "";

    interface Call {
        void on(StoneRings x);
    }

    interface Maker {
        StoneRings make();
    }

    interface Question {
        int of(StoneRings x);
    }

    static void fail(String text) {
        wrong++;
        System.out.println((words.isEmpty() ? "" : "'" + words + "': ") + text);
    }

    /** A test of its own for words of the document; what fails in it is told with them. */
    static void sentence(String quoted, Runnable test) {
        words = quoted;
        sentences++;
        try {
            test.run();
        } catch (RuntimeException e) {
            fail("a call threw " + e);
        }
        words = "";
    }

    static void end() {
        String held = sentences == 0 ? "all promises hold" : "all " + sentences + " sentences hold";
        System.out.println(wrong == 0 ? held : wrong + " answers are not as due");
        if (wrong != 0) {
            System.exit(1);
        }
    }

    static void due(String call, int got, int want) {
        if (got != want) {
            fail(call + " answered " + got + ", due is " + want);
        }
    }

    static void due(String call, boolean got, boolean want) {
        due(call, got ? 1 : 0, want ? 1 : 0);
    }

    /** The very class, so that what the machine throws (a class below the document's) does not pass for it. */
    static void thrown(String call, StoneRings x, Class<?> want, Call wrongCall) {
        Class<?> got = null;
        try {
            wrongCall.on(x);
        } catch (RuntimeException e) {
            got = e.getClass();
        }
        if (got != want) {
            fail(call + " threw " + got + ", due is " + want);
        }
    }

    /** A wrong call; all that can be asked of the object afterwards is as if there had been no such call. */
    static void refusedBy(Maker maker, String call, Class<?> want, Call wrongCall) {
        StoneRings x = maker.make();
        thrown(call, x, want, wrongCall);
        String before = state(maker.make());
        String after = state(x);
        if (!before.equals(after)) {
            fail(call + " threw and changed something:\n  " + before + "\n  " + after);
        }
    }

    static void refused(String call, Class<?> want, Call wrongCall) {
        refusedBy(StoneRingsChecks::used, call, want, wrongCall);
    }

    private static void show(StringBuilder text, StoneRings x, Question question) {
        String answer;
        try {
            answer = Integer.toString(question.of(x));
        } catch (RuntimeException e) {
            answer = e.getClass().getSimpleName();
        }
        text.append(' ').append(answer);
    }

    static String state(StoneRings x) {
        StringBuilder text = new StringBuilder();
        for (int k = 0; k < 4; k++) {
            int at = k;
            show(text, x, o -> o.count(at));
            show(text, x, o -> o.joined(at));
            show(text, x, o -> o.middle(at % 2));
        }
        int rays = x.count(0);
        for (int ray = 0; ray < rays; ray++) {
            int a = ray;
            show(text, x, o -> o.rings(a));
            int length = x.samples(a);
            for (int k = 0; k < length; k++) {
                int at = k;
                show(text, x, o -> o.sample(a, at, false));
            }
        }
        for (int k = 0; k < 80; k++) {
            int at = k;
            show(text, x, o -> o.seen(at / 20, at / 20, at % 20));
        }
        // The corners that no ray of used() meets: whether they are still 0 shows only in what changing them answers.
        show(text, x, o -> o.pixel(15, 0, 0) ? 1 : 0);
        show(text, x, o -> o.pixel(15, 15, 0) ? 1 : 0);
        return text.toString();
    }

    static void row(StoneRings x, int y, int from, int... values) {
        for (int k = 0; k < values.length; k++) {
            x.pixel(from + k, y, values[k]);
        }
    }

    /** A picture whose middle is 0, 7 by a heavy left side, with these samples on ray 0 to the right. */
    static StoneRings line(int... values) {
        StoneRings x = new StoneRings(16, 16);
        for (int y = 0; y < 16; y++) {
            x.pixel(0, y, 255);
        }
        row(x, 7, 0, values);
        due("ray of a line", x.ray(1, 0), 0);
        due("middle x of a line", x.middle(0), 0);
        due("middle y of a line", x.middle(1), 7);
        return x;
    }

    /** Ray 0 has evened 10 3 0 2 6 8 6 8 6 2 3 9 12 12 12 12, ray 1 has 10 3 0 0 2 6 9 6 2 0 2 6 9 6 2 0. */
    static StoneRings twoRays() {
        StoneRings x = line(13, 0, 0, 0, 6, 12, 0, 12, 6, 0, 0, 12, 12, 12, 12, 12);
        x.ray(5, 1);
        row(x, 8, 3, 0, 0, 6, 12, 6);
        row(x, 9, 8, 0, 0, 0, 6, 12);
        row(x, 10, 13, 6, 0, 0);
        x.rule(2, 2);
        return x;
    }

    /** Twice seven rings: evened of ray 0 has its tops at 1, 3 .. 13, and ray 1 goes the same way. */
    static StoneRings sevenRings() {
        StoneRings x = line(6, 21, 2, 24, 0, 25, 0, 24, 2, 21, 6, 16, 12, 9, 20, 0);
        x.ray(5, 0);
        x.rule(1, 0);
        return x;
    }

    /**
     * All 8 rays, a join and some counts. Rays 0 and 7 are the same way; ray 4 has a top that only APART keeps from
     * being a ring, ray 3 one that only HIGH does, so that each change of the rule shows.
     */
    static StoneRings used() {
        StoneRings x = twoRays();
        x.ray(-1, 0);
        x.ray(0, -1);
        x.ray(0, 5);
        x.ray(2, 1);
        x.ray(2, -1);
        x.ray(1, 0);
        x.pixel(0, 9, 0);
        int[] up = {250, 250, 251, 251, 250, 250, 250};
        for (int y = 0; y < up.length; y++) {
            x.pixel(0, y, up[y]);
        }
        x.join(0, 1, 3);
        x.tell(0, 0, 3);
        x.tell(1, 0, 4);
        x.tell(0, 19, 60);
        return x;
    }

    static void ringsAt(String text, StoneRings x, int... places) {
        int rings = x.rings(0);
        due(text + ": rings(0)", rings, places.length);
        for (int k = 0; k < places.length && k < rings; k++) {
            due(text + ": ring(0, " + k + ", 0)", x.ring(0, k, 0), places[k]);
        }
    }

    static void joinsAs(StoneRings x, int ray, int other, int skip, int cost, int... partners) {
        String call = "join(" + ray + ", " + other + ", " + skip + ")";
        due(call, x.join(ray, other, skip), cost);
        for (int k = 0; k < partners.length; k++) {
            due("joined(" + k + ") behind " + call, x.joined(k), partners[k]);
        }
        thrown("joined(" + partners.length + ") behind " + call, x, INDEX, o -> o.joined(partners.length));
    }

    static void fraction(String call, int above, int below, int wantAbove, int wantBelow) {
        due(call + ", 0)", above, wantAbove);
        due(call + ", 1)", below, wantBelow);
    }
}
