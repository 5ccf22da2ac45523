import java.util.List;
import java.util.Map;
import java.util.TreeMap;
import java.util.TreeSet;
import java.util.function.Supplier;
import java.util.function.ToIntFunction;

/**
 * Every refusal that a promise names, at the bounds of every argument: what is just outside is refused and
 * changes nothing, what is just inside is not; of several refusals the first in the document's order.
 */
public final class RefusalsTest {
    private static final int LEAST_ANSWER = -1000000000;
    private static final String ORDER = "REFUSALS, of several the first in this order: UNKNOWN (a GLASS, BOAT, IMAGE that there is not; bits of such), "
        + "OUTSIDE (another number out of its bounds), NOT (not now, as told), FULL.";
    private static final String[] WORDS = {"UNKNOWN", "OUTSIDE", "NOT", "FULL"};
    private static final int[] VALUES = {Edge.UNKNOWN, Edge.OUTSIDE, Edge.NOT, Edge.FULL};

    private static final Map<Integer, TreeSet<String>> tested = new TreeMap<>();

    /** A call with one of its arguments open. */
    private interface Call { int of(GladGlasses x, int argument); }

    private RefusalsTest() { }

    private static GladGlasses busy() {
        GladGlasses x = Edge.on(Edge.COAST);
        x.seed(12);
        x.drift(30);
        x.drink(1);
        x.glad(0, 4);
        x.tap(0, 3);
        x.write(0, 3);
        x.feed('w');
        return x;
    }

    private static GladGlasses aground() {
        GladGlasses x = Edge.on("w1;g5 1;b0 9;b0 9;b0 9;");
        x.day(1);
        return x;
    }

    private static GladGlasses filled() {
        GladGlasses x = busy();
        for (int i = 0; i < 6; i++) x.tap(0, 3);
        for (int i = 0; i < 20; i++) x.write(0, 3);
        return x;
    }

    private static GladGlasses overfed() {
        GladGlasses x = Edge.on("w1;g5 1;");
        for (int i = 0; i < 240; i++) x.feed(' ');
        return x;
    }

    private static GladGlasses late() {
        GladGlasses x = Edge.on("w1;g5 1;");
        for (int i = 0; i < 300; i++) x.day(30);
        x.day(1);
        return x;
    }

    private static GladGlasses imaged() {
        GladGlasses x = busy();
        x.keep(0);
        x.keep(1);
        x.day(1);
        return x;
    }

    private static String wordOf(int refusal) {
        for (int i = 0; i < 4; i++) if (VALUES[i] == refusal) return WORDS[i];
        throw new IllegalStateException(refusal + " is no refusal");
    }

    private static void refused(int promise, String call, GladGlasses x, ToIntFunction<GladGlasses> made, int refusal) {
        tested.computeIfAbsent(promise, k -> new TreeSet<>()).add(wordOf(refusal));
        List<Integer> before = Edge.allOf(x);
        Edge.due(call, made.applyAsInt(x), refusal);
        Edge.due("all that can be looked at behind " + call, Edge.allOf(x), before);
    }

    private static void refusal(int promise, int refusal, String edge, Supplier<GladGlasses> object, ToIntFunction<GladGlasses> made) {
        Edge.of("promise " + promise, wordOf(refusal), edge, () -> refused(promise, edge, object.get(), made, refusal));
    }

    private static void bounds(int promise, int refusal, String call, int least, int most, Call made) {
        bounds(promise, refusal, call, least, most, RefusalsTest::busy, made);
    }

    private static void bounds(int promise, int refusal, String call, int least, int most, Supplier<GladGlasses> object, Call made) {
        Edge.of("promise " + promise, wordOf(refusal), call + " of " + least + " .. " + most, () -> {
            int[] outside = {least - 1, Edge.LOW, most == Edge.HIGH ? Edge.LOW : most + 1, most == Edge.HIGH ? -1 : Edge.HIGH};
            for (int n : outside) refused(promise, call + ", n = " + n, object.get(), x -> made.of(x, n), refusal);
            for (int n : new int[] {least, most}) {
                int answer = made.of(object.get(), n);
                if (answer < LEAST_ANSWER) Edge.fail(call + ", n = " + n + " is refused: " + answer);
            }
        });
    }

    private static void theCoast() {
        bounds(2, Edge.OUTSIDE, "feed(n)", 0, 255, (x, n) -> x.feed(n));
        refusal(2, Edge.FULL, "feed(32) behind 240 letters", RefusalsTest::overfed, x -> x.feed(32));
        bounds(5, Edge.OUTSIDE, "told(n)", 0, 15, (x, n) -> x.told(n));
        bounds(6, Edge.OUTSIDE, "weather(n)", 0, 60, (x, n) -> x.weather(n));
        refusal(6, Edge.NOT, "weather(0) without a coast", GladGlasses::new, x -> x.weather(0));
        refusal(6, Edge.NOT, "weather(60) without a coast", GladGlasses::new, x -> x.weather(60));
        bounds(7, Edge.UNKNOWN, "glass(n, 0)", 0, 2, (x, n) -> x.glass(n, 0));
        bounds(7, Edge.OUTSIDE, "glass(0, n)", 0, 3, (x, n) -> x.glass(0, n));
        bounds(8, Edge.UNKNOWN, "boat(n, 0)", 0, 2, (x, n) -> x.boat(n, 0));
        bounds(8, Edge.OUTSIDE, "boat(0, n)", 0, 4, (x, n) -> x.boat(0, n));
        bounds(9, Edge.OUTSIDE, "logged(0, n)", 0, 2, (x, n) -> x.logged(0, n));
        refusal(9, Edge.OUTSIDE, "logged(20, 3), where nothing is logged", RefusalsTest::busy, x -> x.logged(20, 3));
    }

    private static void deeds() {
        bounds(10, Edge.OUTSIDE, "day(n)", 1, 30, (x, n) -> x.day(n));
        refusal(10, Edge.NOT, "day(1) without a coast", GladGlasses::new, x -> x.day(1));
        refusal(10, Edge.FULL, "day(1) on day 9001", RefusalsTest::late, x -> x.day(1));
        bounds(11, Edge.UNKNOWN, "drink(n)", 0, 2, (x, n) -> x.drink(n));
        refusal(11, Edge.NOT, "drink(0), there is none", () -> Edge.on("w1;g5 1;d0;"), x -> x.drink(0));
        refusal(11, Edge.NOT, "drink(0), temper is 10", () -> Edge.on("w1;g10 1;"), x -> x.drink(0));
        bounds(12, Edge.UNKNOWN, "keepFrom(n)", 0, 2, () -> Edge.on(Edge.COAST), (x, n) -> x.keepFrom(n));
        refusal(12, Edge.NOT, "keepFrom(0), temper is 0", () -> Edge.on("w1;g0 1;"), x -> x.keepFrom(0));
        bounds(13, Edge.UNKNOWN, "glad(n, 1)", 0, 2, (x, n) -> x.glad(n, 1));
        bounds(13, Edge.OUTSIDE, "glad(0, n)", 0, 60, (x, n) -> x.glad(0, n));
        bounds(14, Edge.UNKNOWN, "weigh(n, 1)", 0, 2, (x, n) -> x.weigh(n, 1));
        bounds(14, Edge.OUTSIDE, "weigh(0, n)", 0, 9, (x, n) -> x.weigh(0, n));
        bounds(15, Edge.UNKNOWN, "hold(n, true)", 0, 2, (x, n) -> x.hold(n, true));
        bounds(16, Edge.UNKNOWN, "find(n)", 0, 2, RefusalsTest::aground, (x, n) -> x.find(n));
        refusal(16, Edge.NOT, "find(0), which is home", () -> Edge.on("w1;b0 0;"), x -> x.find(0));
        bounds(17, Edge.OUTSIDE, "drift(n)", 1, 30, (x, n) -> x.drift(n));
        refusal(17, Edge.NOT, "drift(1) without a coast", GladGlasses::new, x -> x.drift(1));
        refusal(17, Edge.FULL, "drift(1) on day 9001", RefusalsTest::late, x -> x.drift(1));
        bounds(18, Edge.OUTSIDE, "undo(n)", 1, 30, (x, n) -> x.undo(n));
        refusal(18, Edge.NOT, "undo(1) of none", () -> Edge.on(Edge.COAST), x -> x.undo(1));
        refusal(18, Edge.NOT, "undo(2) of one", RefusalsTest::aground, x -> x.undo(2));
    }

    private static void tried() {
        bounds(19, Edge.OUTSIDE, "tells(n)", 0, 60, (x, n) -> x.tells(n));
        refusal(19, Edge.NOT, "tells(0) without a coast", GladGlasses::new, x -> x.tells(0));
        bounds(20, Edge.UNKNOWN, "catches(n, 1)", 0, 2, (x, n) -> x.catches(n, 1));
        bounds(20, Edge.OUTSIDE, "catches(0, n)", 0, 60, (x, n) -> x.catches(0, n));
        bounds(21, Edge.OUTSIDE, "loses(n)", 0, 60, (x, n) -> x.loses(n));
        bounds(22, Edge.UNKNOWN, "bestLimit(n, 0)", 0, 2, (x, n) -> x.bestLimit(n, 0));
        bounds(22, Edge.OUTSIDE, "bestLimit(0, n)", 0, 1, (x, n) -> x.bestLimit(0, n));
        bounds(23, Edge.UNKNOWN, "error(n)", Edge.NONE, 2, (x, n) -> x.error(n));
        refusal(23, Edge.NOT, "error(NONE) without a coast", GladGlasses::new, x -> x.error(Edge.NONE));
        bounds(24, Edge.OUTSIDE, "truest(n)", 0, 1, (x, n) -> x.truest(n));
        bounds(25, Edge.UNKNOWN, "bestWeights(n)", Edge.NONE, 2, (x, n) -> x.bestWeights(n));
        refusal(25, Edge.NOT, "bestWeights(NONE) without a coast", GladGlasses::new, x -> x.bestWeights(Edge.NONE));
        bounds(26, Edge.OUTSIDE, "steps(n)", 0, 9, (x, n) -> x.steps(n));
        refusal(26, Edge.NOT, "steps(0) without a coast", GladGlasses::new, x -> x.steps(0));
        bounds(27, Edge.UNKNOWN, "allTrue(n, 0)", 0, 7, (x, n) -> x.allTrue(n, 0));
        bounds(27, Edge.UNKNOWN, "allTrue(n, 2) of seven glasses", 0, 127, () -> Edge.on(Edge.FULL_COAST), (x, n) -> x.allTrue(n, 2));
        bounds(27, Edge.OUTSIDE, "allTrue(7, n)", 0, 2, (x, n) -> x.allTrue(7, n));
        refusal(27, Edge.UNKNOWN, "allTrue(1 << 31, 1), the highest bit alone", RefusalsTest::busy, x -> x.allTrue(1 << 31, 1));
        refusal(27, Edge.UNKNOWN, "allTrue(1, 0) without a glass", () -> Edge.on("w1;"), x -> x.allTrue(1, 0));
        bounds(28, Edge.OUTSIDE, "differ(n)", 0, 1, (x, n) -> x.differ(n));
        bounds(29, Edge.OUTSIDE, "fair(n, 1)", 0, 9, (x, n) -> x.fair(n, 1));
        bounds(29, Edge.OUTSIDE, "fair(0, n)", 1, 12, (x, n) -> x.fair(0, n));
        refusal(29, Edge.NOT, "fair(0, 1) without a coast", GladGlasses::new, x -> x.fair(0, 1));
        bounds(31, Edge.OUTSIDE, "holds(n)", 0, 9, (x, n) -> x.holds(n));
        bounds(32, Edge.OUTSIDE, "homeBy(n, 1)", 0, 60, (x, n) -> x.homeBy(n, 1));
        bounds(32, Edge.OUTSIDE, "homeBy(1, n)", 0, 100, (x, n) -> x.homeBy(1, n));
    }

    private static void others() {
        bounds(33, Edge.UNKNOWN, "tap(n, 1)", 0, 2, (x, n) -> x.tap(n, 1));
        bounds(33, Edge.OUTSIDE, "tap(0, n)", 0, 9, (x, n) -> x.tap(0, n));
        refusal(33, Edge.FULL, "tap(0, 1), the seventh", RefusalsTest::filled, x -> x.tap(0, 1));
        bounds(36, Edge.UNKNOWN, "write(n, 1)", 0, 2, (x, n) -> x.write(n, 1));
        bounds(36, Edge.OUTSIDE, "write(0, n)", 0, 10, (x, n) -> x.write(0, n));
        refusal(36, Edge.FULL, "write(0, 1), the 21st", RefusalsTest::filled, x -> x.write(0, 1));
        bounds(39, Edge.OUTSIDE, "seed(n)", 0, Edge.HIGH, (x, n) -> x.seed(n));
        bounds(40, Edge.UNKNOWN, "keep(n)", 0, 1, (x, n) -> x.keep(n));
        bounds(41, Edge.UNKNOWN, "goBack(n)", 0, 1, RefusalsTest::imaged, (x, n) -> x.goBack(n));
        refusal(41, Edge.NOT, "goBack(0), not kept", RefusalsTest::busy, x -> x.goBack(0));
        refusal(41, Edge.NOT, "goBack(1), not kept", () -> { GladGlasses x = busy(); x.keep(0); return x; }, x -> x.goBack(1));
    }

    private static void firstOf(String edge, Supplier<GladGlasses> object, ToIntFunction<GladGlasses> made, int refusal) {
        Edge.of("terms", ORDER, edge, () -> Edge.due(edge, made.applyAsInt(object.get()), refusal));
    }

    private static void order() {
        Supplier<GladGlasses> none = GladGlasses::new, some = RefusalsTest::busy, full = RefusalsTest::filled;
        firstOf("UNKNOWN ahead of OUTSIDE: glass(3, 4)", some, x -> x.glass(3, 4), Edge.UNKNOWN);
        firstOf("UNKNOWN ahead of OUTSIDE: boat(-1, 5)", some, x -> x.boat(-1, 5), Edge.UNKNOWN);
        firstOf("UNKNOWN ahead of OUTSIDE: glad(3, 61)", some, x -> x.glad(3, 61), Edge.UNKNOWN);
        firstOf("UNKNOWN ahead of OUTSIDE: weigh(-1, 10)", some, x -> x.weigh(-1, 10), Edge.UNKNOWN);
        firstOf("UNKNOWN ahead of OUTSIDE: catches(3, 61)", some, x -> x.catches(3, 61), Edge.UNKNOWN);
        firstOf("UNKNOWN ahead of OUTSIDE: bestLimit(3, 2)", some, x -> x.bestLimit(3, 2), Edge.UNKNOWN);
        firstOf("UNKNOWN ahead of OUTSIDE: allTrue(8, 3)", some, x -> x.allTrue(8, 3), Edge.UNKNOWN);
        firstOf("UNKNOWN ahead of OUTSIDE: tap(3, 10)", some, x -> x.tap(3, 10), Edge.UNKNOWN);
        firstOf("UNKNOWN ahead of OUTSIDE: write(3, 11)", some, x -> x.write(3, 11), Edge.UNKNOWN);
        firstOf("UNKNOWN ahead of NOT: drink(1) where there is none", () -> Edge.on("w1;g10 1;d0;"), x -> x.drink(1), Edge.UNKNOWN);
        firstOf("UNKNOWN ahead of NOT: keepFrom(1)", () -> Edge.on("w1;g0 1;"), x -> x.keepFrom(1), Edge.UNKNOWN);
        firstOf("UNKNOWN ahead of NOT: find(3)", some, x -> x.find(3), Edge.UNKNOWN);
        firstOf("UNKNOWN ahead of NOT: error(0) without a coast", none, x -> x.error(0), Edge.UNKNOWN);
        firstOf("UNKNOWN ahead of NOT: bestWeights(0) without a coast", none, x -> x.bestWeights(0), Edge.UNKNOWN);
        firstOf("UNKNOWN ahead of NOT: goBack(2)", none, x -> x.goBack(2), Edge.UNKNOWN);
        firstOf("UNKNOWN ahead of FULL: tap(3, 1)", full, x -> x.tap(3, 1), Edge.UNKNOWN);
        firstOf("UNKNOWN ahead of FULL: write(3, 1)", full, x -> x.write(3, 1), Edge.UNKNOWN);
        firstOf("OUTSIDE ahead of NOT: weather(61) without a coast", none, x -> x.weather(61), Edge.OUTSIDE);
        firstOf("OUTSIDE ahead of NOT: day(31) without a coast", none, x -> x.day(31), Edge.OUTSIDE);
        firstOf("OUTSIDE ahead of NOT: drift(0) without a coast", none, x -> x.drift(0), Edge.OUTSIDE);
        firstOf("OUTSIDE ahead of NOT: undo(31) of none", none, x -> x.undo(31), Edge.OUTSIDE);
        firstOf("OUTSIDE ahead of NOT: undo(0) of none", none, x -> x.undo(0), Edge.OUTSIDE);
        firstOf("OUTSIDE ahead of NOT: tells(61) without a coast", none, x -> x.tells(61), Edge.OUTSIDE);
        firstOf("OUTSIDE ahead of NOT: steps(10) without a coast", none, x -> x.steps(10), Edge.OUTSIDE);
        firstOf("OUTSIDE ahead of NOT: fair(10, 1) without a coast", none, x -> x.fair(10, 1), Edge.OUTSIDE);
        firstOf("OUTSIDE ahead of NOT: fair(0, 13) without a coast", none, x -> x.fair(0, 13), Edge.OUTSIDE);
        firstOf("OUTSIDE ahead of FULL: feed(256)", RefusalsTest::overfed, x -> x.feed(256), Edge.OUTSIDE);
        firstOf("OUTSIDE ahead of FULL: day(31) on day 9001", RefusalsTest::late, x -> x.day(31), Edge.OUTSIDE);
        firstOf("OUTSIDE ahead of FULL: drift(31) on day 9001", RefusalsTest::late, x -> x.drift(31), Edge.OUTSIDE);
        firstOf("OUTSIDE ahead of FULL: tap(0, 10)", full, x -> x.tap(0, 10), Edge.OUTSIDE);
        firstOf("OUTSIDE ahead of FULL: write(0, 11)", full, x -> x.write(0, 11), Edge.OUTSIDE);
    }

    private static void howManyThereAre() {
        Edge.of("terms", "UNKNOWN (a GLASS, BOAT, IMAGE that there is not; bits of such)", "none, one, seven glasses; none, one, five boats", () -> {
            for (int glasses : new int[] {0, 1, 7}) {
                GladGlasses x = Edge.on("w1;" + Edge.times(glasses, "g5 1;"));
                Edge.due("glass(" + glasses + ", 0)", x.glass(glasses, 0), Edge.UNKNOWN);
                if (glasses > 0) Edge.due("glass(" + (glasses - 1) + ", 0)", x.glass(glasses - 1, 0), 5);
                Edge.due("allTrue(1 << " + glasses + ", 0)", x.allTrue(1 << glasses, 0), Edge.UNKNOWN);
                Edge.due("allTrue of all", x.allTrue((1 << glasses) - 1, 0), 0);
            }
            for (int boats : new int[] {0, 1, 5}) {
                GladGlasses x = Edge.on("w1;" + Edge.times(boats, "b5 1;"));
                Edge.due("boat(" + boats + ", 0)", x.boat(boats, 0), Edge.UNKNOWN);
                if (boats > 0) Edge.due("boat(" + (boats - 1) + ", 0)", x.boat(boats - 1, 0), 5);
            }
        });
        Edge.of("terms", "UNKNOWN (a GLASS, BOAT, IMAGE that there is not; bits of such)", "a coast with fewer, behind one with more", () -> {
            GladGlasses x = Edge.on(Edge.FULL_COAST);
            Edge.feed(x, "w1;g5 1;b0 0;");
            x.coast();
            for (int what = 0; what < 4; what++) Edge.due("glass(1, " + what + ")", x.glass(1, what), Edge.UNKNOWN);
            for (int what = 0; what < 5; what++) Edge.due("boat(1, " + what + ")", x.boat(1, what), Edge.UNKNOWN);
            Edge.due("drink(1)", x.drink(1), Edge.UNKNOWN);
            Edge.due("hold(1, true)", x.hold(1, true), Edge.UNKNOWN);
            Edge.due("allTrue(3, 0)", x.allTrue(3, 0), Edge.UNKNOWN);
        });
    }

    private static void eachThatIsNamed() {
        for (int promise = 1; promise <= 41; promise++) {
            TreeSet<String> named = new TreeSet<>();
            String text = Edge.textOf("promise " + promise);
            for (String word : WORDS) if (text.matches(".*\\b" + word + "\\b.*")) named.add(word);
            TreeSet<String> seen = tested.getOrDefault(promise, new TreeSet<>());
            if (!seen.equals(named)) Edge.fail("promise " + promise + " names the refusals " + named + ", tested are " + seen);
        }
    }

    static void all() {
        theCoast();
        deeds();
        tried();
        others();
        order();
        howManyThereAre();
        Edge.of("terms", "What is refused changes nothing.", "each refusal that a promise names was tried", RefusalsTest::eachThatIsNamed);
    }

    public static void main(String[] args) {
        all();
        Edge.end();
    }
}
