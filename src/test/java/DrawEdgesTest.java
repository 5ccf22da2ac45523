import java.util.List;

/** The edges of promises 17, 18 and 39 to 41: days by draws, what is undone, the seed, images. */
public final class DrawEdgesTest {
    private DrawEdgesTest() { }

    private static long next(long seed) {
        return (seed * 1103515245L + 12345L) % 2147483648L;
    }

    private static int drawn(long seed, int of) {
        return (int) (seed / 65536 % of);
    }

    private static int seedOf(GladGlasses x) {
        int seed = x.seed(0);
        x.seed(seed);
        return seed;
    }

    /** The least seed from which, with one glass, the draw of 4 is this, and the draw behind it (any: -1) that. */
    private static int seedFor(int on, int then) {
        for (int seed = 0; seed < 100000; seed++) {
            long second = next(next(seed));
            if (drawn(second, 4) == on && (then < 0 || drawn(next(second), 4) == then)) return seed;
        }
        throw new IllegalStateException("no such seed");
    }

    /** The seed that becomes this one by a draw. */
    private static int seedAhead(int seed) {
        // 1857678181 undoes the factor: 1103515245 times it leaves 1 over by 2 to the 31.
        return (int) Math.floorMod((seed - 12345L) * 1857678181L, 2147483648L);
    }

    private static void drawsAs(int glasses, int from) {
        long first = next(from), second = next(first);
        int g = drawn(first, glasses), on = drawn(second, 4);
        GladGlasses x = driftOnce("w1;" + Edge.times(glasses, "g5 1;"), 0, from);
        for (int k = 0; k < glasses; k++) {
            Edge.due("glass(" + k + ", 0) of " + glasses + " from seed " + from, x.glass(k, 0), k != g ? 5 : on == 0 ? 6 : on == 1 ? 4 : 5);
            Edge.due("glass(" + k + ", 3) of " + glasses + " from seed " + from, x.glass(k, 3), k != g || on != 2 ? 0 : Math.max(0, drawn(next(second), 4) - 1));
        }
        Edge.due("the seed behind " + from, seedOf(x), (int) (on == 2 ? next(second) : second));
    }

    private static GladGlasses driftOnce(String text, int glad, int seed) {
        GladGlasses x = Edge.on(text);
        x.glad(0, glad);
        x.seed(seed);
        x.drift(1);
        return x;
    }

    private static void theSeed() {
        Edge.of("section 3", "BY DRAWS: THE SEED (0 at first:", "a new object's seed, its first draw", () -> {
            GladGlasses x = new GladGlasses();
            Edge.due("seed(0)", x.seed(0), 0);
            x = Edge.on("w1;g5 1;");
            x.drift(1);
            // 0 becomes 12345, and that 12345 * 1103515245 and 12345, left over: 1406932606, a draw of 4 of 0.
            Edge.due("seed(0)", x.seed(0), 1406932606);
            Edge.due("glass(0, 0)", x.glass(0, 0), 6);
        });
        Edge.of("section 3", "left over by 2 to the 31", "the greatest seed and others from which it wraps around", () -> {
            for (int seed : new int[] {1, 2, 1103515245, 1073741824, 2147483646, 2147483647}) {
                GladGlasses x = driftOnce("w1;g5 1;", 0, seed);
                long due = next(next(seed));
                if (drawn(due, 4) == 2) due = next(due);
                Edge.due("the seed behind " + seed, seedOf(x), (int) due);
            }
        });
        Edge.of("promise 39", "THE SEED becomes v (0 .. 2147483647): what it was.", "0, the greatest, the same again", () -> {
            GladGlasses x = new GladGlasses();
            Edge.due("seed(2147483647)", x.seed(2147483647), 0);
            Edge.due("seed(2147483647)", x.seed(2147483647), 2147483647);
            Edge.due("seed(0)", x.seed(0), 2147483647);
            Edge.due("seed(1)", x.seed(1), 0);
        });
        Edge.of("promise 39", "THE SEED becomes v (0 .. 2147483647): what it was.", "it is no deed", () -> {
            GladGlasses x = Edge.on("w1;");
            x.seed(9);
            Edge.due("told(15)", x.told(15), 0);
        });
    }

    private static void draws() {
        Edge.of("section 3", "ahead of each, if there are GLASSES, a DRAW of these, of 4", "without a glass nothing is drawn", () -> {
            GladGlasses x = Edge.on("w9;b0 0;");
            x.seed(5);
            Edge.due("drift(30)", x.drift(30), 1);
            Edge.due("seed(0)", x.seed(0), 5);
            Edge.due("boat(0, 4)", x.boat(0, 4), 270);
        });
        Edge.of("section 3", "ahead of each, if there are GLASSES, a DRAW of these, of 4", "each of seven glasses is drawn, the first and the last too", () -> {
            boolean[] seen = new boolean[7];
            for (int seed = 0; seed < 60; seed++) {
                int g = drawn(next(seed), 7);
                if (seen[g] || drawn(next(next(seed)), 4) != 0) continue;
                seen[g] = true;
                GladGlasses x = driftOnce("w1;" + Edge.times(7, "g4 1;"), 0, seed);
                for (int k = 0; k < 7; k++) Edge.due("glass(" + k + ", 0) from seed " + seed, x.glass(k, 0), k == g ? 5 : 4);
            }
            for (int g = 0; g < 7; g++) Edge.due("glass " + g + " was drawn", seen[g] ? 1 : 0, 1);
        });
        Edge.of("section 3", "the DRAW of n is it / 65536, left over by n", "from what is just below 65536, just there, the greatest; of 1 to 7 glasses", () -> {
            for (int drawn : new int[] {0, 65535, 65536, 131071, 2147418111, 2147418112, 2147483647})
                for (int glasses = 1; glasses <= 7; glasses++) drawsAs(glasses, seedAhead(drawn));
        });
        Edge.of("section 3", "on 0 its TEMPER is one more (10 at most; no DRINK goes)", "from 9, from 10; without drinks", () -> {
            int seed = seedFor(0, -1);
            Edge.due("from 0", driftOnce("w1;g0 1;", 0, seed).glass(0, 0), 1);
            Edge.due("from 9", driftOnce("w1;g9 1;", 0, seed).glass(0, 0), 10);
            Edge.due("from 10", driftOnce("w1;g10 1;", 0, seed).glass(0, 0), 10);
            GladGlasses x = driftOnce("w1;g5 1;d0;", 0, seed);
            Edge.due("without drinks", x.glass(0, 0), 6);
            Edge.due("told(6)", x.told(6), 0);
        });
        Edge.of("section 3", "on 1 one less (0 at least)", "from 1, from 0", () -> {
            int seed = seedFor(1, -1);
            Edge.due("from 10", driftOnce("w1;g10 1;", 0, seed).glass(0, 0), 9);
            Edge.due("from 1", driftOnce("w1;g1 1;", 0, seed).glass(0, 0), 0);
            Edge.due("from 0", driftOnce("w1;g0 1;", 0, seed).glass(0, 0), 0);
        });
        Edge.of("section 3", "on 2 it is GLAD for a DRAW of 4 DAYS.", "0 to 3 days, instead of 60", () -> {
            for (int days = 0; days < 4; days++) {
                GladGlasses x = driftOnce("w1;g5 1;", 60, seedFor(2, days));
                Edge.due("glass(0, 3), a day later", x.glass(0, 3), Math.max(days - 1, 0));
                Edge.due("glass(0, 0)", x.glass(0, 0), 5);
                Edge.due("what the row told", x.logged(0, 0), days > 0 ? 3 : 1);
            }
        });
        Edge.of("section 3", "a DRAW of these, of 4: on 0", "on 3 nothing is done", () -> {
            GladGlasses x = driftOnce("w1;g5 1;", 60, seedFor(3, -1));
            Edge.due("glass(0, 0)", x.glass(0, 0), 5);
            Edge.due("glass(0, 3)", x.glass(0, 3), 59);
            Edge.due("the seed, twice drawn", seedOf(x), (int) next(next(seedFor(3, -1))));
        });
        Edge.of("section 3", "n DAYS: ahead of each", "the draw comes ahead of the day: the boat sails by it", () -> {
            GladGlasses x = driftOnce("w4;g5 1;b5 0;", 0, seedFor(0, -1));
            Edge.due("what the row told", x.logged(0, 0), 5);
            Edge.due("boat(0, 4)", x.boat(0, 4), 4);
            Edge.due("how many sailed", x.logged(0, 2), 1);
        });
    }

    private static void drifting() {
        Edge.of("promise 17", "n DAYS BY DRAWS (1 .. 30): how many BOATS are HOME.", "1 and 30 days; none, some, all of five", () -> {
            GladGlasses x = Edge.on(Edge.FULL_COAST);
            Edge.due("drift(1)", x.drift(1), 5);
            Edge.due("told(4)", x.told(4), 1);
            Edge.due("drift(30)", x.drift(30), 5);
            Edge.due("told(4)", x.told(4), 31);
            Edge.due("drift(30) without boats", Edge.on("w1;g5 1;").drift(30), 0);
            x = Edge.on("w1;" + Edge.times(5, "b0 2;"));
            x.hold(2, true);
            Edge.due("drift(1), one held", x.drift(1), 1);
            x.hold(2, false);
            Edge.due("drift(1), none", x.drift(1), 0);
        });
        Edge.of("promise 17", "n DAYS BY DRAWS (1 .. 30): how many BOATS are HOME.", "thirty at once are as thirty one by one", () -> {
            GladGlasses x = Edge.on(Edge.COAST), y = Edge.on(Edge.COAST);
            x.drift(30);
            for (int i = 0; i < 30; i++) y.drift(1);
            Edge.due("all that can be looked at", Edge.allOf(x), Edge.allOf(y));
        });
        Edge.of("promise 17", "FULL: DAYS are above 9000.", "on day 9000, 9001; nothing is drawn then", () -> {
            GladGlasses x = Edge.on("w1;g5 1;");
            for (int i = 0; i < 300; i++) x.day(30);
            Edge.due("drift(1) on day 9000", x.drift(1), 0);
            int seed = seedOf(x);
            Edge.due("drift(1) on day 9001", x.drift(1), Edge.FULL);
            Edge.due("told(4)", x.told(4), 9001);
            Edge.due("the seed", seedOf(x), seed);
            x.undo(1);
            Edge.due("drift(30) on day 9000", x.drift(30), 0);
            Edge.due("told(4)", x.told(4), 9030);
        });
    }

    private static void doAll(GladGlasses x) {
        x.drink(2);
        x.keepFrom(1);
        x.glad(0, 7);
        x.weigh(0, 9);
        x.hold(0, true);
        x.find(2);
    }

    private static void undoing() {
        Edge.of("section 3", "UNDONE: the latest deeds (each DAY, drink(), keepFrom(), glad(), weigh(), hold(), find(), with what is DRAWN)", "one by one, each of them", () -> {
            GladGlasses x = Edge.on(Edge.COAST);
            x.day(1);
            List<Integer> dayOne = Edge.allOf(x);
            doAll(x);
            Edge.due("told(15)", x.told(15), 7);
            x.undo(6);
            Edge.due("all that can be looked at", Edge.allOf(x), dayOne);
        });
        Edge.of("section 3", "UNDONE: the latest deeds (each DAY, drink(), keepFrom(), glad(), weigh(), hold(), find(), with what is DRAWN)", "each deed is one, a call of n days is n of them", () -> {
            GladGlasses x = Edge.on(Edge.COAST);
            x.day(3);
            Edge.due("told(15) behind day(3)", x.told(15), 3);
            x.drift(2);
            Edge.due("told(15) behind drift(2)", x.told(15), 5);
            Edge.due("drink(2)", x.drink(2) >= 0 ? x.told(15) : Edge.NONE, 6);
            Edge.due("keepFrom(2)", x.keepFrom(2) >= 0 ? x.told(15) : Edge.NONE, 7);
            Edge.due("glad(2, 1)", x.glad(2, 1) >= 0 ? x.told(15) : Edge.NONE, 8);
            Edge.due("weigh(2, 1)", x.weigh(2, 1) >= 0 ? x.told(15) : Edge.NONE, 9);
            Edge.due("hold(1, true)", x.hold(1, true) >= 0 ? x.told(15) : Edge.NONE, 10);
            Edge.due("find(2)", x.find(2) >= 0 ? x.told(15) : Edge.NONE, 11);
            Edge.due("undo(8): two of three days, what was drawn", x.undo(8), 3);
            Edge.due("undo(1): one of three days", x.undo(1), 2);
            Edge.due("told(15)", x.told(15), 2);
        });
        Edge.of("section 3", "UNDONE: the latest deeds", "what is no deed is not undone: taps, the book, the text", () -> {
            GladGlasses x = Edge.on(Edge.COAST);
            x.day(1);
            x.tap(0, 1);
            x.write(0, 1);
            x.feed('w');
            x.tear();
            x.tap(0, 2);
            Edge.due("told(15)", x.told(15), 1);
            Edge.due("undo(1)", x.undo(1), 0);
            Edge.due("told(13)", x.told(13), 1);
            Edge.due("told(14)", x.told(14), 0);
            Edge.due("told(3)", x.told(3), 1);
        });
        Edge.of("section 3", "UNDONE: the latest deeds", "refused deeds are none", () -> {
            GladGlasses x = Edge.on("w1;g10 1;g0 1;b0 0;d0;");
            x.drink(0);
            x.keepFrom(1);
            x.glad(2, 1);
            x.glad(0, 61);
            x.weigh(0, 10);
            x.hold(1, true);
            x.find(0);
            x.day(31);
            x.drift(0);
            Edge.due("told(15)", x.told(15), 0);
        });
        Edge.of("section 3", "all of section 2 is as ahead of them; THE SEED stays.", "a drifted day with gladness, a loss, the log", () -> {
            GladGlasses x = Edge.on(Edge.COAST);
            doAll(x);
            x.day(25);
            x.seed(123456);
            List<Integer> before = Edge.allOf(x);
            x.drift(5);
            int seed = seedOf(x);
            Edge.due("undo(5)", x.undo(5), 25);
            Edge.due("the seed", x.seed(123456), seed);
            Edge.due("what can be undone, 30 at most", x.told(15), 25);
            before.set(15, 25);
            Edge.due("all else", Edge.allOf(x), before);
        });
        Edge.of("section 3", "all of section 2 is as ahead of them; THE SEED stays.", "days that had gone from the log are in it again", () -> {
            GladGlasses x = Edge.on("w1,2,3,4,5,6,7;g5 1;b4 0;");
            x.day(21);
            List<Integer> before = Edge.allOf(x);
            x.hold(0, true);
            x.glad(0, 60);
            x.day(20);
            x.undo(22);
            before.set(15, 8);
            Edge.due("all that can be looked at", Edge.allOf(x), before);
        });
    }

    private static void howManyAreUndone() {
        Edge.of("section 3", "(30 at most are kept)", "29, 30, 31, 61 deeds", () -> {
            for (int deeds : new int[] {29, 30, 31, 61}) {
                GladGlasses x = Edge.on("w1;g5 0;");
                for (int i = 1; i <= deeds; i++) x.weigh(0, i % 10);
                int kept = Math.min(deeds, 30);
                Edge.due("told(15) of " + deeds, x.told(15), kept);
                for (int i = 1; i <= kept; i++) {
                    Edge.due("undo(1)", x.undo(1), 0);
                    Edge.due("the weight, " + i + " of " + deeds + " undone", x.glass(0, 1), (deeds - i) % 10);
                }
                Edge.due("undo(1), no more", x.undo(1), Edge.NOT);
            }
        });
        Edge.of("section 3", "(30 at most are kept)", "undone and done again across the bound", () -> {
            GladGlasses x = Edge.on("w1;");
            x.day(30);
            x.day(15);
            Edge.due("undo(20)", x.undo(20), 25);
            x.day(25);
            Edge.due("told(15)", x.told(15), 30);
            Edge.due("undo(30)", x.undo(30), 20);
            Edge.due("undo(1)", x.undo(1), Edge.NOT);
        });
        Edge.of("section 3", "since the text or IMAGE", "a text, a kept image, an image gone back to", () -> {
            GladGlasses x = Edge.on("w1;");
            x.day(3);
            x.keep(0);
            Edge.due("undo(1) behind keep()", x.undo(1), Edge.NOT);
            x.day(2);
            Edge.due("undo(3)", x.undo(3), Edge.NOT);
            x.goBack(0);
            Edge.due("undo(1) behind goBack()", x.undo(1), Edge.NOT);
            x.day(2);
            Edge.feed(x, "w1;");
            x.coast();
            Edge.due("undo(1) behind coast()", x.undo(1), Edge.NOT);
        });
        Edge.of("promise 18", "The n latest (1 .. 30) are undone: DAYS.", "1 and 30", () -> {
            GladGlasses x = Edge.on("w1;");
            x.day(30);
            x.day(1);
            Edge.due("undo(1)", x.undo(1), 30);
            x.day(1);
            Edge.due("undo(30)", x.undo(30), 1);
        });
        Edge.of("promise 18", "NOT: not so many.", "one more than there are, just as many", () -> {
            GladGlasses x = Edge.on("w1;");
            Edge.due("undo(1) of none", x.undo(1), Edge.NOT);
            x.day(3);
            Edge.due("undo(4) of three", x.undo(4), Edge.NOT);
            Edge.due("undo(30) of three", x.undo(30), Edge.NOT);
            Edge.due("told(4)", x.told(4), 3);
            Edge.due("told(15)", x.told(15), 3);
            Edge.due("undo(3) of three", x.undo(3), 0);
            Edge.due("undo(1) of none", x.undo(1), Edge.NOT);
        });
    }

    private static void images() {
        Edge.of("section 3", "IMAGES 0, 1 keep all of section 2, THE SEED.", "each part of it", () -> {
            GladGlasses x = Edge.on(Edge.COAST);
            x.seed(44);
            x.drift(23);
            doAll(x);
            x.keep(1);
            List<Integer> kept = Edge.allOf(x);
            x.drift(30);
            x.keepFrom(0);
            x.glad(2, 60);
            x.weigh(2, 7);
            x.hold(1, true);
            x.hold(0, false);
            x.seed(2147483647);
            Edge.due("goBack(1)", x.goBack(1), 1);
            Edge.due("all that can be looked at", Edge.allOf(x), kept);
        });
        Edge.of("section 3", "IMAGES 0, 1 keep all of section 2, THE SEED.", "days that have gone from the log since", () -> {
            GladGlasses x = Edge.on("w1,2,3,4,5,6,7;g5 1;b4 0;");
            x.day(21);
            x.keep(0);
            List<Integer> kept = Edge.allOf(x);
            x.hold(0, true);
            x.glad(0, 60);
            x.day(25);
            x.goBack(0);
            Edge.due("all that can be looked at", Edge.allOf(x), kept);
        });
        Edge.of("section 3", "IMAGES 0, 1 keep all of section 2, THE SEED.", "taps, the book and the text are not kept", () -> {
            GladGlasses x = Edge.on(Edge.COAST);
            x.keep(0);
            x.tap(0, 1);
            x.write(0, 1);
            x.feed('w');
            x.goBack(0);
            Edge.due("told(13)", x.told(13), 1);
            Edge.due("told(14)", x.told(14), 1);
            Edge.due("told(3)", x.told(3), 1);
        });
        Edge.of("promise 40", "IMAGE i becomes what is so (nothing can be undone then): 1.", "both images, one over another", () -> {
            GladGlasses x = Edge.on("w1;");
            x.day(1);
            Edge.due("keep(0)", x.keep(0), 1);
            Edge.due("told(15)", x.told(15), 0);
            x.day(1);
            Edge.due("keep(1)", x.keep(1), 1);
            x.day(1);
            Edge.due("keep(0) again", x.keep(0), 1);
            x.goBack(1);
            Edge.due("told(4) of image 1", x.told(4), 2);
            x.goBack(0);
            Edge.due("told(4) of image 0", x.told(4), 3);
        });
        Edge.of("promise 41", "What is so becomes IMAGE i (nothing can be undone then): 1.", "again and again; the image stays as it was", () -> {
            GladGlasses x = Edge.on("w1;g5 1;");
            x.keep(0);
            for (int i = 0; i < 3; i++) {
                x.day(2);
                x.glad(0, 60);
                x.drink(0);
                Edge.due("goBack(0)", x.goBack(0), 1);
                Edge.due("told(4)", x.told(4), 0);
                Edge.due("told(6)", x.told(6), 3);
                Edge.due("told(10)", x.told(10), 0);
                Edge.due("told(12)", x.told(12), 0);
                Edge.due("glass(0, 0)", x.glass(0, 0), 5);
                Edge.due("told(15)", x.told(15), 0);
            }
        });
        Edge.of("promise 41", "NOT: it was not kept.", "neither, one of two, behind a new coast", () -> {
            GladGlasses x = Edge.on("w1;");
            x.day(1);
            Edge.due("goBack(0)", x.goBack(0), Edge.NOT);
            Edge.due("goBack(1)", x.goBack(1), Edge.NOT);
            Edge.due("told(15), which stays", x.told(15), 1);
            x.keep(1);
            Edge.due("goBack(0)", x.goBack(0), Edge.NOT);
            Edge.due("goBack(1)", x.goBack(1), 1);
            x.coast();
            Edge.due("goBack(1)", x.goBack(1), Edge.NOT);
        });
    }

    static void all() {
        theSeed();
        draws();
        drifting();
        undoing();
        howManyAreUndone();
        images();
    }

    public static void main(String[] args) {
        all();
        Edge.end();
    }
}
