/** For each promise: ordinary calls, the edges that the document names, and each refusal. */
public final class PromiseTest {
    private static final int NONE = -1, UNKNOWN = -1000000001, OUTSIDE = -1000000002, NOT = -1000000003, FULL = -1000000004;
    private static final int LOW = Integer.MIN_VALUE, HIGH = Integer.MAX_VALUE;

    /** Weather 3, 7, 1, 8, 5; tempers 5, 7, 2 with weights 2, 1, 3; three boats; two drinks a day. */
    private static final String COAST = "w3,7,1,8,5;g5 2;g7 1;g2 3;b4 3;b6 1;b2 8;d2;";

    private static int wrong = 0;
    private static int looked = 0;

    private static void due(int promise, String call, int got, int want) {
        looked++;
        if (got != want) {
            wrong++;
            System.out.println("promise " + promise + ": " + call + " answered " + got + ", due is " + want);
        }
    }

    private static int feed(GladGlasses x, String text) {
        int last = 0;
        for (int i = 0; i < text.length(); i++) last = x.feed(text.charAt(i));
        return last;
    }

    private static GladGlasses on(String text) {
        GladGlasses x = new GladGlasses();
        feed(x, text);
        due(3, "coast() of a good text", Math.min(x.coast(), 0), 0);
        return x;
    }

    private static void told(int promise, GladGlasses x, int... wants) {
        for (int what = 0; what < wants.length; what++) due(promise, "told(" + what + ")", x.told(what), wants[what]);
    }

    private static void fault(String text, int kind, int at) {
        GladGlasses x = on(COAST);
        feed(x, text);
        due(3, "coast() of '" + text + "'", x.coast(), -10 - kind);
        due(4, "fault() of '" + text + "'", x.fault(), at);
        due(3, "told(3) behind a fault", x.told(3), 0);
        due(3, "told(0) behind a fault", x.told(0), 5);
    }

    private static void good(String text, int glasses) {
        GladGlasses x = new GladGlasses();
        feed(x, text);
        due(3, "coast() of '" + text + "'", x.coast(), glasses);
        due(4, "fault() of '" + text + "'", x.fault(), NONE);
    }

    private static void aNewObject() {
        GladGlasses x = new GladGlasses();
        told(1, x, 0, 0, 0, 0, 0, NONE, 0, 0, 0, 0, 0, 0, 0, 0, 0, 0);
        due(1, "fault()", x.fault(), NONE);
        due(1, "weather(0)", x.weather(0), NOT);
        due(1, "glass(0, 0)", x.glass(0, 0), UNKNOWN);
        due(1, "boat(0, 0)", x.boat(0, 0), UNKNOWN);
        due(1, "logged(0, 0)", x.logged(0, 0), NONE);
        due(1, "loses(60)", x.loses(60), 0);
        due(1, "truest(0)", x.truest(0), NONE);
        due(1, "truest(1)", x.truest(1), NONE);
        due(1, "differ(1)", x.differ(1), NONE);
        due(1, "allTrue(0, 2)", x.allTrue(0, 2), 0);
        due(1, "allTrue(1, 2)", x.allTrue(1, 2), UNKNOWN);
        due(1, "falseOnes()", x.falseOnes(), 0);
        due(1, "holds(9)", x.holds(9), 1023);
        due(1, "could()", x.could(), 1023);
        due(1, "tapNext()", x.tapNext(), NONE);
        due(1, "judge()", x.judge(), NONE);
        due(1, "tear()", x.tear(), 0);
        due(1, "seed(5)", x.seed(5), 0);
        due(1, "goBack(0)", x.goBack(0), NOT);
        due(1, "keep(0)", x.keep(0), 1);
        due(1, "seed(7)", x.seed(7), 5);
        due(1, "goBack(0)", x.goBack(0), 1);
        due(1, "seed(0)", x.seed(0), 5);
        due(1, "undo(1)", x.undo(1), NOT);
    }

    private static void feeding() {
        GladGlasses x = new GladGlasses();
        due(2, "feed(-1)", x.feed(-1), OUTSIDE);
        due(2, "feed(256)", x.feed(256), OUTSIDE);
        due(2, "feed(LOW)", x.feed(LOW), OUTSIDE);
        due(2, "feed(0)", x.feed(0), 1);
        due(2, "feed(255)", x.feed(255), 2);
        for (int i = 3; i <= 240; i++) due(2, "feed(32)", x.feed(32), i);
        due(2, "feed(32)", x.feed(32), FULL);
        due(2, "feed(256)", x.feed(256), OUTSIDE);
        due(2, "told(3)", x.told(3), 240);
        due(2, "coast()", x.coast(), -11);
        due(2, "fault()", x.fault(), 0);
        due(2, "feed(119)", x.feed(119), 1);
    }

    private static void goodTexts() {
        good("w0;", 0);
        good("w1,2,3,4,5,6,7,8,9,0,1,2;", 0);
        good(" w 009 ; g 10 9 ; b 9 9;d 020 ; ", 1);
        good("w1;d0;b0 0;g0 0;", 1);
        good("w1;g1 1;g1 1;g1 1;g1 1;g1 1;g1 1;g1 1;b1 1;b1 1;b1 1;b1 1;b1 1;", 7);
        good("", 0);
        GladGlasses x = on("w4;");
        due(3, "told(6), drinks untold", x.told(6), 3);
        x = on("w4;d20;");
        due(3, "told(6)", x.told(6), 20);
        StringBuilder full = new StringBuilder("w1;");
        while (full.length() < 235) full.append(' ');
        good(full.append("g1 1;").toString(), 1);
    }

    private static void faults() {
        fault("g5 1;", 1, 0);
        fault("d5;w1;", 1, 0);
        fault(" x", 1, 1);
        fault("5", 1, 0);
        fault(";", 1, 0);
        fault("w", 1, 1);
        fault("w;", 1, 1);
        fault("w,1;", 1, 1);
        fault("w1", 1, 2);
        fault("w1  ", 1, 4);
        fault("w1,;", 1, 3);
        fault("w1,", 1, 3);
        fault("w1 2;", 1, 3);
        fault("w1 2222;", 1, 3);
        fault("w1;;", 1, 3);
        fault("w1;7777", 1, 3);
        fault("w1;G1 1;", 1, 3);
        fault("w1;g1;", 1, 5);
        fault("w1;g1 1", 1, 7);
        fault("w1;g1 1 1;", 1, 8);
        fault("w1;g1,1;", 1, 5);
        fault("w1;gg1 1;", 1, 4);
        fault("w1w2;", 1, 2);
        fault("w1;b1 1d", 1, 7);
        fault("w1;d1 1;", 1, 6);
        fault("w1;\t", 1, 3);
        fault("w1,2,3,4,5,6,7,8,9,0,1,2,3;", 1, 24);
        fault("w1,2,3,4,5,6,7,8,9,0,1,2 ,9999;", 1, 25);
        fault("w1,2,3,4,5,6,7,8,9,0,1,2", 1, 24);
        fault("w10;", 2, 1);
        fault("w 10x", 2, 2);
        fault("w10", 2, 1);
        fault("w0000;", 2, 1);
        fault("w99999999999999999999999999;", 2, 1);
        fault("w1,12,x;", 2, 3);
        fault("w1;g11 x;", 2, 4);
        fault("w1;g10 10;", 2, 7);
        fault("w1;g52;", 2, 4);
        fault("w1;b10 1;", 2, 4);
        fault("w1;b1 10;", 2, 6);
        fault("w1;d21;", 2, 4);
        fault("w1;d0001;", 2, 4);
        fault("w1;w", 3, 3);
        fault("w1;d1;d", 3, 6);
        fault("w1;g1 1;g1 1;g1 1;g1 1;g1 1;g1 1;g1 1;g", 3, 38);
        fault("w1;b1 1;b1 1;b1 1;b1 1;b1 1; b99", 3, 29);
    }

    private static void coasts() {
        GladGlasses x = on(COAST);
        x.day(3);
        x.tap(0, 3);
        x.write(0, 3);
        x.keep(0);
        x.glad(0, 5);
        x.hold(1, true);
        x.seed(77);
        feed(x, "w1;g1 1");
        due(3, "coast()", x.coast(), -11);
        told(3, x, 5, 3, 3, 0, 3, x.tells(0), 2, x.told(7), 4, 2, 1, x.told(11), 3, 1, 1, 2);
        due(3, "goBack(0) behind a fault", x.goBack(0), 1);
        feed(x, COAST);
        due(3, "coast()", x.coast(), 3);
        told(3, x, 5, 3, 3, 0, 0, 5, 2, 5, 0, 0, 0, 0, 0, 0, 0, 0);
        due(4, "fault()", x.fault(), NONE);
        due(3, "goBack(0) behind a new coast", x.goBack(0), NOT);
        due(3, "glass(0, 3)", x.glass(0, 3), 0);
        due(3, "seed(0)", x.seed(0), 0);
        x.day(1);
        x.glad(2, 9);
        x.hold(1, true);
        feed(x, COAST);
        due(3, "coast() again", x.coast(), 3);
        told(3, x, 5, 3, 3, 0, 0, 5, 2, 5, 0, 0, 0, 0, 0, 0, 0, 0);
        x.day(1);
        due(3, "the log begins anew", x.logged(0, 0) * 100 + x.logged(0, 1) * 10 + x.logged(0, 2), 572);
        x.seed(91);
        due(3, "coast() of an empty text", x.coast(), 0);
        told(3, x, 0, 0, 0, 0, 0, NONE, 0, 0, 0, 0, 0, 0, 0, 0, 0, 0);
        due(3, "seed(0), which stays", x.seed(0), 91);
        feed(x, COAST);
        x.coast();
        feed(x, "   ");
        due(3, "coast() of blanks alone, read as an empty text", x.coast(), 0);
        due(3, "told(0)", x.told(0), 0);
        due(3, "day(1) without a coast", x.day(1), NOT);
    }

    private static void numbersTold() {
        GladGlasses x = on(COAST);
        told(5, x, 5, 3, 3, 0, 0, 5, 2, 5, 0, 0, 0, 0, 0, 0, 0, 0);
        due(5, "told(-1)", x.told(-1), OUTSIDE);
        due(5, "told(16)", x.told(16), OUTSIDE);
        due(5, "told(LOW)", x.told(LOW), OUTSIDE);
        due(5, "told(HIGH)", x.told(HIGH), OUTSIDE);
        x.feed('w');
        x.feed('1');
        x.day(1);
        x.drink(2);
        x.glad(2, 1);
        x.hold(0, true);
        x.tap(0, 1);
        x.write(0, 1);
        x.write(0, 1);
        // Tomorrow 1: reads 1, 3, 1 (temper 3, glad): (2 + 3 + 3) / 6 = 1.
        told(5, x, 5, 3, 3, 2, 1, 1, 1, 0, 4, 1, 4, 7, 1, 1, 2, 4);
        due(5, "told(7): held, lost do not sail", on("w9;b0 0;b5 0;b6 0;").told(7), 3);
    }

    private static void weathers() {
        GladGlasses x = on(COAST);
        int[] days = {3, 7, 1, 8, 5};
        for (int n = 0; n <= 60; n++) due(6, "weather(" + n + ")", x.weather(n), days[n % 5]);
        due(6, "weather(-1)", x.weather(-1), OUTSIDE);
        due(6, "weather(61)", x.weather(61), OUTSIDE);
        due(6, "weather(HIGH)", x.weather(HIGH), OUTSIDE);
        x.day(3);
        due(6, "weather(0)", x.weather(0), 8);
        due(6, "weather(4)", x.weather(4), 1);
        due(6, "weather(61) without a coast", new GladGlasses().weather(61), OUTSIDE);
        due(6, "weather(60) without a coast", new GladGlasses().weather(60), NOT);
    }

    private static void glasses() {
        GladGlasses x = on(COAST);
        int[][] want = {{5, 2, 7, 0}, {7, 1, 9, 0}, {2, 3, 4, 0}};
        for (int g = 0; g < 3; g++) for (int w = 0; w < 4; w++) due(7, "glass(" + g + ", " + w + ")", x.glass(g, w), want[g][w]);
        due(7, "glass(3, 0)", x.glass(3, 0), UNKNOWN);
        due(7, "glass(-1, 9)", x.glass(-1, 9), UNKNOWN);
        due(7, "glass(0, 4)", x.glass(0, 4), OUTSIDE);
        due(7, "glass(0, -1)", x.glass(0, -1), OUTSIDE);
        due(7, "glass(HIGH, 0)", x.glass(HIGH, 0), UNKNOWN);
        x = on("w0,9;g0 1;g10 1;g4 1;");
        due(7, "9 less 5", x.glass(0, 2), 4);
        due(7, "9 at most", x.glass(1, 2), 9);
        x.glad(2, 1);
        due(7, "9 at most, glad", x.glass(2, 2), 9);
        x.glad(0, 2);
        due(7, "9 less 5 and 2", x.glass(0, 2), 6);
        x.day(1);
        due(7, "0 at least", x.glass(0, 2), 0);
        due(7, "days glad yet", x.glass(0, 3), 1);
        due(7, "not below 0", x.glass(2, 3), 0);
        due(7, "0 and 5", x.glass(1, 2), 5);
    }

    private static void boats() {
        GladGlasses x = on(COAST);
        int[][] want = {{4, 3, 1, 0, 0}, {6, 1, 1, 0, 0}, {2, 8, 1, 0, 0}};
        for (int b = 0; b < 3; b++) for (int w = 0; w < 5; w++) due(8, "boat(" + b + ", " + w + ")", x.boat(b, w), want[b][w]);
        due(8, "boat(3, 0)", x.boat(3, 0), UNKNOWN);
        due(8, "boat(-1, 5)", x.boat(-1, 5), UNKNOWN);
        due(8, "boat(0, 5)", x.boat(0, 5), OUTSIDE);
        due(8, "boat(0, -1)", x.boat(0, -1), OUTSIDE);
        x.hold(1, true);
        x.day(1);
        due(8, "boat(2, 2)", x.boat(2, 2), 0);
        due(8, "boat(1, 3)", x.boat(1, 3), 1);
        due(8, "boat(0, 4)", x.boat(0, 4), 7);
    }

    private static void log() {
        GladGlasses x = on(COAST);
        due(9, "logged(0, 0)", x.logged(0, 0), NONE);
        due(9, "logged(0, 3)", x.logged(0, 3), OUTSIDE);
        due(9, "logged(0, -1)", x.logged(0, -1), OUTSIDE);
        x.day(2);
        int[][] want = {{0, 1, 0}, {5, 7, 2}};
        for (int i = 0; i < 2; i++) for (int w = 0; w < 3; w++) due(9, "logged(" + i + ", " + w + ")", x.logged(i, w), want[i][w]);
        due(9, "logged(2, 0)", x.logged(2, 0), NONE);
        due(9, "logged(-1, 0)", x.logged(-1, 0), NONE);
        due(9, "logged(LOW, 0)", x.logged(LOW, 0), NONE);
        due(9, "logged(HIGH, 0)", x.logged(HIGH, 0), NONE);
        x.day(25);
        due(9, "told(12)", x.told(12), 20);
        for (int i = 0; i < 20; i++) due(9, "logged(" + i + ", 1)", x.logged(i, 1), new int[] {3, 7, 1, 8, 5}[(27 - i) % 5]);
        due(9, "logged(20, 1)", x.logged(20, 1), NONE);
    }

    private static void days() {
        GladGlasses x = on(COAST);
        due(10, "day(0)", x.day(0), OUTSIDE);
        due(10, "day(31)", x.day(31), OUTSIDE);
        due(10, "day(-1)", x.day(-1), OUTSIDE);
        due(10, "day(31) without a coast", new GladGlasses().day(31), OUTSIDE);
        due(10, "day(1) without a coast", new GladGlasses().day(1), NOT);
        x.drink(0);
        x.glad(0, 2);
        due(10, "day(1)", x.day(1), 2);
        due(10, "drinks again", x.told(6), 2);
        due(10, "glad a day less", x.glass(0, 3), 1);
        due(10, "told(4)", x.told(4), 1);
        due(10, "lost", x.told(8), 4);
        due(10, "its catch", x.boat(2, 4), 0);
        due(10, "day(30)", x.day(30), 2);
        due(10, "told(4)", x.told(4), 31);
        due(10, "no longer glad", x.glass(0, 3), 0);
        // A boat that bears all: weather 9, 0 in turn; the row without weight tells 5.
        x = on("w9,0;b5 0;b6 0;b0 9;b0 1;");
        due(10, "day(1)", x.day(1), 2);
        due(10, "lost below S", x.told(8), 12);
        due(10, "day(3)", x.day(3), 2);
        due(10, "limit 5, told 5", x.boat(0, 4), 18);
        due(10, "limit 6, told 5", x.boat(1, 4), 0);
        x = on("w9;b0 9;");
        due(10, "weather 9 is not below 9", x.day(30), 1);
        for (int i = 1; i < 300; i++) x.day(30);
        due(10, "told(4)", x.told(4), 9000);
        due(10, "day(1) at 9000", x.day(1), 1);
        due(10, "day(1) at 9001", x.day(1), FULL);
        due(10, "day(31) at 9001", x.day(31), OUTSIDE);
        due(17, "drift(1) at 9001", x.drift(1), FULL);
        due(10, "its catch", x.boat(0, 4), 81009);
        due(10, "undo(1)", x.undo(1), 9000);
        due(10, "day(30) at 9000", x.day(30), 1);
        due(10, "told(4)", x.told(4), 9030);
    }

    private static void drinks() {
        GladGlasses x = on(COAST);
        due(11, "drink(-1)", x.drink(-1), UNKNOWN);
        due(11, "drink(3)", x.drink(3), UNKNOWN);
        due(11, "drink(2)", x.drink(2), 3);
        due(11, "told(6)", x.told(6), 1);
        due(11, "drink(2)", x.drink(2), 4);
        due(11, "drink(2), none left", x.drink(2), NOT);
        due(11, "glass(2, 0)", x.glass(2, 0), 4);
        due(11, "told(15)", x.told(15), 2);
        x = on("w5;g9 1;");
        due(11, "drink(0)", x.drink(0), 10);
        due(11, "drink(0), at 10", x.drink(0), NOT);
        due(11, "told(6)", x.told(6), 2);
        due(12, "keepFrom(0)", x.keepFrom(0), 9);
        due(12, "told(6)", x.told(6), 2);
        due(12, "keepFrom(1)", x.keepFrom(1), UNKNOWN);
        due(12, "keepFrom(-1)", x.keepFrom(-1), UNKNOWN);
        for (int t = 8; t >= 0; t--) due(12, "keepFrom(0)", x.keepFrom(0), t);
        due(12, "keepFrom(0), at 0", x.keepFrom(0), NOT);
        due(12, "told(15)", x.told(15), 11);
    }

    private static void gladness() {
        GladGlasses x = on(COAST);
        due(13, "glad(0, 60)", x.glad(0, 60), 0);
        due(13, "glad(0, 3)", x.glad(0, 3), 60);
        due(13, "glad(0, 61)", x.glad(0, 61), OUTSIDE);
        due(13, "glad(0, -1)", x.glad(0, -1), OUTSIDE);
        due(13, "glad(3, -1)", x.glad(3, -1), UNKNOWN);
        due(13, "glad(-1, 1)", x.glad(-1, 1), UNKNOWN);
        due(13, "told(10)", x.told(10), 1);
        due(13, "reads 2 more", x.glass(0, 2), 9);
        due(13, "glad(0, 0)", x.glad(0, 0), 3);
        due(13, "told(10)", x.told(10), 0);
        due(13, "told(15)", x.told(15), 3);
        due(14, "weigh(0, 9)", x.weigh(0, 9), 2);
        due(14, "weigh(0, 0)", x.weigh(0, 0), 9);
        due(14, "weigh(0, 10)", x.weigh(0, 10), OUTSIDE);
        due(14, "weigh(0, -1)", x.weigh(0, -1), OUTSIDE);
        due(14, "weigh(3, 10)", x.weigh(3, 10), UNKNOWN);
        due(14, "weigh(-1, 1)", x.weigh(-1, 1), UNKNOWN);
        due(14, "told(5): (9 + 12) / 4", x.told(5), 5);
        x.weigh(1, 0);
        due(14, "told(5): 4", x.told(5), 4);
        x.weigh(2, 0);
        due(14, "told(5) without weight", x.told(5), 5);
        due(14, "told(15)", x.told(15), 7);
    }

    private static void holding() {
        GladGlasses x = on(COAST);
        due(15, "hold(0, true)", x.hold(0, true), 0);
        due(15, "hold(0, true)", x.hold(0, true), 1);
        due(15, "told(9)", x.told(9), 1);
        due(15, "told(7)", x.told(7), 4);
        due(15, "hold(3, true)", x.hold(3, true), UNKNOWN);
        due(15, "hold(-1, false)", x.hold(-1, false), UNKNOWN);
        due(15, "told(15)", x.told(15), 2);
        due(15, "hold(0, false)", x.hold(0, false), 1);
        due(15, "hold(0, false)", x.hold(0, false), 0);
        due(15, "told(9)", x.told(9), 0);
        due(16, "find(0), at home", x.find(0), NOT);
        due(16, "find(3)", x.find(3), UNKNOWN);
        due(16, "find(-1)", x.find(-1), UNKNOWN);
        x = on("w1;b0 9;b0 9;b0 0;");
        due(16, "day(2)", x.day(2), 1);
        due(16, "find(1)", x.find(1), 1);
        due(16, "find(1), at home", x.find(1), NOT);
        due(16, "told(8)", x.told(8), 1);
        due(16, "find(0)", x.find(0), 0);
        due(16, "told(15)", x.told(15), 4);
        due(16, "undo(1)", x.undo(1), 2);
        due(16, "told(8)", x.told(8), 1);
    }

    private static void drifting() {
        GladGlasses x = on(COAST);
        due(17, "drift(0)", x.drift(0), OUTSIDE);
        due(17, "drift(31)", x.drift(31), OUTSIDE);
        due(17, "drift(1) without a coast", new GladGlasses().drift(1), NOT);
        due(17, "drift(31) without a coast", new GladGlasses().drift(31), OUTSIDE);
        // From seed 0 the draws of 3 glasses, of 4: by hand from the rule.
        long seed = 0;
        int[] temper = {5, 7, 2}, glad = {0, 0, 0};
        for (int i = 0; i < 30; i++) {
            seed = next(seed);
            int g = (int) (seed / 65536 % 3);
            seed = next(seed);
            int on = (int) (seed / 65536 % 4);
            if (on == 0) temper[g] = Math.min(10, temper[g] + 1);
            if (on == 1) temper[g] = Math.max(0, temper[g] - 1);
            if (on == 2) {
                seed = next(seed);
                glad[g] = (int) (seed / 65536 % 4);
            }
            x.drift(1);
            for (int k = 0; k < 3; k++) {
                glad[k] = Math.max(0, glad[k] - 1);
                due(17, "temper of " + k, x.glass(k, 0), temper[k]);
                due(17, "gladness of " + k, x.glass(k, 3), glad[k]);
            }
            due(17, "drinks", x.told(6), 2);
        }
        due(17, "the seed", x.seed(0), (int) seed);
        due(17, "told(15)", x.told(15), 30);
        due(17, "told(4)", x.told(4), 30);
        x = on("w9;b0 0;");
        x.seed(5);
        due(17, "drift(30) without glasses", x.drift(30), 1);
        due(17, "the seed without glasses", x.seed(0), 5);
        due(17, "its catch", x.boat(0, 4), 270);
    }

    private static long next(long seed) {
        return (seed * 1103515245L + 12345L) % 2147483648L;
    }

    private static void undoing() {
        GladGlasses x = on(COAST);
        due(18, "undo(1)", x.undo(1), NOT);
        due(18, "undo(0)", x.undo(0), OUTSIDE);
        due(18, "undo(31)", x.undo(31), OUTSIDE);
        x.day(1);
        x.drink(0);
        x.keepFrom(1);
        x.glad(2, 4);
        x.weigh(0, 7);
        x.hold(0, true);
        x.find(2);
        x.day(1);
        due(18, "told(15)", x.told(15), 8);
        due(18, "undo(9)", x.undo(9), NOT);
        due(18, "undo(1)", x.undo(1), 1);
        due(18, "the log", x.told(12), 1);
        due(18, "glad again", x.glass(2, 3), 4);
        due(18, "drinks again", x.told(6), 1);
        due(18, "undo(1): lost again", x.undo(1) + x.told(8), 5);
        due(18, "undo(1): not held", x.undo(1) + x.told(9), 1);
        due(18, "undo(1): the weight", x.undo(1) + x.glass(0, 1), 3);
        due(18, "undo(1): not glad", x.undo(1) + x.told(10), 1);
        due(18, "undo(1): kept from", x.undo(1) + x.glass(1, 0), 8);
        due(18, "undo(1): the drink", x.undo(1) + x.glass(0, 0) + x.told(6), 8);
        due(18, "undo(1): the day", x.undo(1) + x.told(8) + x.told(11) + x.told(12), 0);
        due(18, "told(15)", x.told(15), 0);
        x.day(30);
        int caught = x.told(11), first = x.logged(19, 0), weather = x.logged(19, 1), sailed = x.logged(19, 2);
        x.weigh(0, 9);
        due(18, "told(15), 30 at most", x.told(15), 30);
        x.day(20);
        due(18, "undo(20)", x.undo(20), 30);
        due(18, "the catch", x.told(11), caught);
        due(18, "what the log's oldest told", x.logged(19, 0), first);
        due(18, "the log's oldest weather", x.logged(19, 1), weather);
        due(18, "who sailed on the log's oldest day", x.logged(19, 2), sailed);
        due(18, "undo(11)", x.undo(11), NOT);
        due(18, "undo(10)", x.undo(10), 21);
        due(18, "undo(1)", x.undo(1), NOT);
        x.seed(9);
        x.drift(2);
        int seed = x.seed(0);
        x.seed(seed);
        due(18, "undo(2)", x.undo(2), 21);
        due(18, "the seed stays", x.seed(0), seed);
        due(18, "a drifted day is one deed", x.told(15), 0);
        x = on("w9,0;b0 0;b5 1;");
        x.day(21);
        due(18, "the log's latest", x.logged(0, 1), 0);
        x.hold(0, true);
        x.day(25);
        due(18, "undo(26)", x.undo(26), 21);
        for (int i = 0; i < 20; i++) due(18, "logged(" + i + ", 1)", x.logged(i, 1), i % 2 == 0 ? 0 : 9);
        for (int i = 0; i < 20; i++) due(18, "logged(" + i + ", 2)", x.logged(i, 2), 1);
    }

    private static void telling() {
        GladGlasses x = on(COAST);
        int[] want = {5, 0, 6, 3, 1};
        x.hold(0, true);
        for (int n = 0; n <= 60; n++) due(19, "tells(" + n + ")", x.tells(n), want[n % 5]);
        due(19, "tells(-1)", x.tells(-1), OUTSIDE);
        due(19, "tells(61)", x.tells(61), OUTSIDE);
        due(19, "tells(61) without a coast", new GladGlasses().tells(61), OUTSIDE);
        due(19, "tells(0) without a coast", new GladGlasses().tells(0), NOT);
        x = on("w5;g5 1;");
        x.glad(0, 3);
        due(19, "tells(2), glad yet", x.tells(2), 7);
        due(19, "tells(3), no longer", x.tells(3), 5);
        due(19, "nothing changes", x.told(4) + x.glass(0, 3), 3);
        due(19, "tells(9) without a glass", on("w1;").tells(9), 5);
    }

    private static void catching() {
        GladGlasses x = on(COAST);
        due(20, "catches(0, 0)", x.catches(0, 0), 0);
        due(20, "catches(0, 1)", x.catches(0, 1), 7);
        due(20, "catches(0, 5)", x.catches(0, 5), 15);
        due(20, "catches(2, 60), lost at once", x.catches(2, 60), 0);
        due(20, "catches(3, 61)", x.catches(3, 61), UNKNOWN);
        due(20, "catches(-1, 1)", x.catches(-1, 1), UNKNOWN);
        due(20, "catches(0, 61)", x.catches(0, 61), OUTSIDE);
        due(20, "catches(0, -1)", x.catches(0, -1), OUTSIDE);
        due(21, "loses(0)", x.loses(0), 0);
        due(21, "loses(1)", x.loses(1), 4);
        due(21, "loses(60)", x.loses(60), 4);
        due(21, "loses(61)", x.loses(61), OUTSIDE);
        due(21, "loses(-1)", x.loses(-1), OUTSIDE);
        due(21, "nothing changes", x.told(8) + x.told(4) + x.told(12), 0);
        x.hold(2, true);
        due(21, "loses(60), held", x.loses(60), 0);
        x.hold(0, true);
        due(20, "catches(0, 60), held", x.catches(0, 60), 0);
        x.hold(2, false);
        x.day(1);
        due(21, "loses(60), lost already", x.loses(60), 0);
        due(20, "catches(2, 60), lost already", x.catches(2, 60), 0);
        // Catches 8 and 6, then it is lost in 2; the glass reads true.
        x = on("w2,8,6;g5 1;b2 3;");
        due(20, "catches(0, 2)", x.catches(0, 2), 14);
        due(20, "catches(0, 60)", x.catches(0, 60), 14);
        due(21, "loses(2)", x.loses(2), 0);
        due(21, "loses(3)", x.loses(3), 1);
    }

    private static void limits() {
        GladGlasses x = on(COAST);
        int[] limit = {1, 0, 6}, worth = {66, 69, 24};
        x.hold(0, true);
        x.day(5);
        for (int b = 0; b < 3; b++) {
            due(22, "bestLimit(" + b + ", 0)", x.bestLimit(b, 0), limit[b]);
            due(22, "bestLimit(" + b + ", 1)", x.bestLimit(b, 1), worth[b]);
        }
        due(22, "bestLimit(3, 2)", x.bestLimit(3, 2), UNKNOWN);
        due(22, "bestLimit(-1, 0)", x.bestLimit(-1, 0), UNKNOWN);
        due(22, "bestLimit(0, 2)", x.bestLimit(0, 2), OUTSIDE);
        due(22, "bestLimit(0, -1)", x.bestLimit(0, -1), OUTSIDE);
        due(22, "its limit stays", x.boat(0, 0), 4);
        // The row tells 9 whatever the limit is: it is lost on the first day.
        x = on("w1;g10 1;b5 9;");
        for (int i = 0; i < 3; i++) x.drink(0);
        x.glad(0, 60);
        due(22, "the row tells 8", x.told(5), 8);
        due(22, "bestLimit(0, 0): at home", x.bestLimit(0, 0), 9);
        due(22, "bestLimit(0, 1): at home", x.bestLimit(0, 1), 0);
        x = on("w2;g10 1;b5 9;");
        x.glad(0, 60);
        due(22, "bestLimit(0, 0): lost anyway", x.bestLimit(0, 0), 0);
        due(22, "bestLimit(0, 1): lost anyway", x.bestLimit(0, 1), -20);
    }

    private static void errors() {
        GladGlasses x = on(COAST);
        int[] want = {21, 0, 22, 30};
        for (int g = -1; g < 3; g++) due(23, "error(" + g + ")", x.error(g), want[g + 1]);
        due(23, "error(3)", x.error(3), UNKNOWN);
        due(23, "error(-2)", x.error(-2), UNKNOWN);
        due(23, "error(-1) without a coast", new GladGlasses().error(-1), NOT);
        due(23, "error(0) without a coast", new GladGlasses().error(0), UNKNOWN);
        due(23, "error(-1) without a glass", on("w5,4;").error(-1), 6);
        due(24, "truest(0)", x.truest(0), 0);
        due(24, "truest(1)", x.truest(1), 0);
        due(24, "truest(2)", x.truest(2), OUTSIDE);
        due(24, "truest(-1)", x.truest(-1), OUTSIDE);
        due(24, "truest(0) without a glass", on("w5;").truest(0), NONE);
        due(24, "truest(1) without a glass", on("w5;").truest(1), NONE);
        x = on("w4;g8 1;g3 1;g7 1;g3 2;");
        due(24, "truest(0), of like ones", x.truest(0), 1);
        due(24, "truest(1), of like ones", x.truest(1), 24);
        x.glad(3, 5);
        due(23, "error(3), glad 5 days of 12", x.error(3), 14);
        due(24, "truest(0), glad", x.truest(0), 3);
        due(24, "truest(1), glad", x.truest(1), 14);
    }

    private static void weights() {
        GladGlasses x = on(COAST);
        int[] want = {0, 1, 0, 0};
        for (int g = -1; g < 3; g++) due(25, "bestWeights(" + g + ")", x.bestWeights(g), want[g + 1]);
        due(25, "bestWeights(3)", x.bestWeights(3), UNKNOWN);
        due(25, "bestWeights(-2)", x.bestWeights(-2), UNKNOWN);
        due(25, "bestWeights(-1) without a coast", new GladGlasses().bestWeights(-1), NOT);
        due(25, "bestWeights(0) without a coast", new GladGlasses().bestWeights(0), UNKNOWN);
        due(25, "bestWeights(-1) without a glass", on("w5,4;").bestWeights(-1), 6);
        due(25, "weights stay", x.glass(2, 1), 3);
        x = on("w5;g5 9;g5 9;");
        due(25, "no weight tells 5", x.bestWeights(0) + x.bestWeights(1) + x.bestWeights(-1), 0);
        // Reads 7 and 1, weather 3: one to two, and one of each tells 4.
        x = on("w3;g9 0;g3 0;");
        due(25, "bestWeights(0)", x.bestWeights(0), 1);
        due(25, "bestWeights(1)", x.bestWeights(1), 2);
        due(25, "bestWeights(-1)", x.bestWeights(-1), 0);
        // Reads 3 and 9: three to one would tell 4, but a weight is 2 at most; no weight comes first.
        x = on("w4;g4 0;g10 0;");
        due(25, "bestWeights(-1)", x.bestWeights(-1), 12);
        due(25, "bestWeights(0), of like ones", x.bestWeights(0), 0);
        due(25, "bestWeights(1), of like ones", x.bestWeights(1), 0);
        x = on("w3;g3 0;g9 0;");
        due(25, "bestWeights(0)", x.bestWeights(0), 2);
        due(25, "bestWeights(1)", x.bestWeights(1), 1);
    }

    private static void stepping() {
        GladGlasses x = on(COAST);
        due(26, "steps(5)", x.steps(5), 0);
        due(26, "steps(7)", x.steps(7), 3);
        due(26, "steps(9)", x.steps(9), 7);
        due(26, "steps(0)", x.steps(0), NONE);
        due(26, "steps(-1)", x.steps(-1), OUTSIDE);
        due(26, "steps(10)", x.steps(10), OUTSIDE);
        due(26, "steps(10) without a coast", new GladGlasses().steps(10), OUTSIDE);
        due(26, "steps(5) without a coast", new GladGlasses().steps(5), NOT);
        due(26, "steps(5) without a weight", on("w1;g5 0;").steps(5), 0);
        due(26, "steps(4) without a weight", on("w1;g5 0;").steps(4), NONE);
        x = on("w4;g5 1;");
        int[] want = {4, 3, 2, 1, 0, 1, 2, 3, 4, 5};
        for (int r = 0; r <= 9; r++) due(26, "steps(" + r + ")", x.steps(r), want[r]);
        x.glad(0, 1);
        due(26, "steps(9), glad", x.steps(9), 3);
        due(26, "steps(0), glad", x.steps(0), NONE);
        due(26, "steps(1), glad", x.steps(1), 5);
        due(26, "temper stays", x.glass(0, 0), 5);
        x = on("w9;g5 9;g5 9;g5 9;g5 9;g5 9;g5 9;g5 9;");
        due(26, "steps(9), all that there can be", x.steps(9), 0);
        due(26, "steps(8), all that there can be", x.steps(8), 1);
        due(26, "steps(4), all that there can be", x.steps(4), 29);
        due(26, "steps(3), all that there can be", x.steps(3), NONE);
    }

    private static void truth() {
        GladGlasses x = on(COAST);
        due(27, "allTrue(7, 0)", x.allTrue(7, 0), 3);
        due(27, "allTrue(7, 1)", x.allTrue(7, 1), 2);
        due(27, "allTrue(7, 2)", x.allTrue(7, 2), 2);
        due(27, "allTrue(3, 0)", x.allTrue(3, 0), 0);
        due(27, "allTrue(1, 1)", on("w1;g9 1;").allTrue(1, 1), 4);
        due(27, "allTrue(3, 2)", x.allTrue(3, 2), 0);
        due(27, "allTrue(0, 1)", x.allTrue(0, 1), 0);
        due(27, "allTrue(8, 3)", x.allTrue(8, 3), UNKNOWN);
        due(27, "allTrue(-1, 0)", x.allTrue(-1, 0), UNKNOWN);
        due(27, "allTrue(LOW, 0)", x.allTrue(LOW, 0), UNKNOWN);
        due(27, "allTrue(7, 3)", x.allTrue(7, 3), OUTSIDE);
        due(27, "allTrue(7, -1)", x.allTrue(7, -1), OUTSIDE);
        x.drink(0);
        x.drink(0);
        due(27, "allTrue(4, 2), none left: 0, 2, 1", x.allTrue(4, 2), 3);
        x = on("w1;g5 1;g2 1;d0;");
        due(27, "allTrue(2, 2): never", x.allTrue(2, 2), NONE);
        due(27, "allTrue(1, 2): none must", x.allTrue(1, 2), 0);
        x = on("w1;g2 1;");
        due(27, "allTrue(1, 2): today", x.allTrue(1, 2), 1);
        x = on("w1;g0 1;g0 1;g0 1;g0 1;g0 1;g0 1;g0 1;d1;");
        due(27, "allTrue(127, 2)", x.allTrue(127, 2), 35);
    }

    private static void differing() {
        GladGlasses x = on(COAST);
        due(28, "differ(0)", x.differ(0), 102);
        due(28, "differ(1)", x.differ(1), 5);
        due(28, "differ(2)", x.differ(2), OUTSIDE);
        due(28, "differ(-1)", x.differ(-1), OUTSIDE);
        due(28, "differ(0) of one", on("w1;g1 1;").differ(0), NONE);
        due(28, "differ(1) of one", on("w1;g1 1;").differ(1), NONE);
        due(28, "differ(0) of like ones", on("w1;g5 1;g5 1;g5 1;").differ(0), 1);
        due(28, "differ(1) of like ones", on("w1;g5 1;g5 1;g5 1;").differ(1), 0);
        x = on("w4;g5 1;g5 1;g7 1;g3 1;g7 1;");
        due(28, "differ(0)", x.differ(0), 203);
        x.glad(4, 1);
        due(28, "differ(0), glad", x.differ(0), 304);
        due(28, "differ(1), glad", x.differ(1), 6);
    }

    private static void fairness() {
        GladGlasses x = on(COAST);
        due(29, "fair(5, 1)", x.fair(5, 1), 1);
        due(29, "fair(5, 2)", x.fair(5, 2), 3);
        due(29, "fair(3, 4)", x.fair(3, 4), 3);
        due(29, "fair(3, 5)", x.fair(3, 5), NONE);
        due(29, "fair(1, 12)", x.fair(1, 12), 0);
        due(29, "fair(9, 1)", x.fair(9, 1), NONE);
        x.day(4);
        due(29, "fair(8, 1)", x.fair(8, 1), 4);
        due(29, "fair(-1, 1)", x.fair(-1, 1), OUTSIDE);
        due(29, "fair(10, 1)", x.fair(10, 1), OUTSIDE);
        due(29, "fair(0, 0)", x.fair(0, 0), OUTSIDE);
        due(29, "fair(0, 13)", x.fair(0, 13), OUTSIDE);
        due(29, "fair(0, 13) without a coast", new GladGlasses().fair(0, 13), OUTSIDE);
        due(29, "fair(0, 1) without a coast", new GladGlasses().fair(0, 1), NOT);
        due(29, "fair(9, 1), the last of 12", on("w0,1,2,3,4,5,6,7,8,0,1,9;").fair(9, 1), 11);
    }

    private static void falseness() {
        GladGlasses x = on(COAST);
        due(30, "falseOnes()", x.falseOnes(), 0);
        x.glad(0, 1);
        x.glad(1, 1);
        x.glad(2, 2);
        due(30, "falseOnes(): 9 is 9", x.falseOnes(), 5);
        x.day(1);
        due(30, "falseOnes(): 1 less 3 and 2 is 0", x.falseOnes(), 0);
        due(30, "told(10)", x.told(10), 4);
    }

    private static void rules() {
        GladGlasses x = on(COAST);
        for (int w = 0; w <= 9; w++) due(31, "holds(" + w + ") of an empty log", x.holds(w), 1023);
        due(31, "holds(-1)", x.holds(-1), OUTSIDE);
        due(31, "holds(10)", x.holds(10), OUTSIDE);
        x.day(1);
        // It told 5, the weather was 7.
        due(31, "holds(7)", x.holds(7), 1023);
        due(31, "holds(8)", x.holds(8), 1023 - 63);
        x.day(1);
        due(31, "holds(7)", x.holds(7), 1022);
        due(31, "holds(9)", x.holds(9), 1023 - 63);
        x = on("w9,0;");
        x.day(1);
        due(31, "holds(1)", x.holds(1), 1023 - 63);
        x.undo(1);
        due(31, "holds(1), undone", x.holds(1), 1023);
        due(31, "holds(0) of 0", on("w0;").holds(0), 1023);
    }

    private static void odds() {
        GladGlasses x = new GladGlasses();
        due(32, "homeBy(0, 100)", x.homeBy(0, 100), 1000000000);
        due(32, "homeBy(1, 100)", x.homeBy(1, 100), 0);
        due(32, "homeBy(60, 0)", x.homeBy(60, 0), 1000000000);
        due(32, "homeBy(2, 10)", x.homeBy(2, 10), 810000000);
        due(32, "homeBy(60, 1)", x.homeBy(60, 1), 547156620);
        due(32, "homeBy(10, 99)", x.homeBy(10, 99), 0);
        due(32, "homeBy(4, 99)", x.homeBy(4, 99), 10);
        due(32, "homeBy(-1, 0)", x.homeBy(-1, 0), OUTSIDE);
        due(32, "homeBy(61, 0)", x.homeBy(61, 0), OUTSIDE);
        due(32, "homeBy(0, -1)", x.homeBy(0, -1), OUTSIDE);
        due(32, "homeBy(0, 101)", x.homeBy(0, 101), OUTSIDE);
    }

    private static void tapping() {
        GladGlasses x = on(COAST);
        due(33, "tap(3, 10)", x.tap(3, 10), UNKNOWN);
        due(33, "tap(-1, 0)", x.tap(-1, 0), UNKNOWN);
        due(33, "tap(0, 10)", x.tap(0, 10), OUTSIDE);
        due(33, "tap(0, -1)", x.tap(0, -1), OUTSIDE);
        due(34, "could()", x.could(), 1023);
        due(35, "tapNext()", x.tapNext(), 0);
        due(33, "tap(2, 0)", x.tap(2, 0), 1);
        due(34, "could(): 0 to 3", x.could(), 15);
        due(35, "tapNext()", x.tapNext(), 0);
        x.keepFrom(0);
        x.keepFrom(0);
        due(35, "tapNext(): the first parts less", x.tapNext(), 1);
        due(33, "tap(1, 5)", x.tap(1, 5), 2);
        due(34, "could(): 3", x.could(), 8);
        due(35, "tapNext(): only one", x.tapNext(), NONE);
        x.glad(2, 1);
        due(34, "could(): gladness as now", x.could(), 0);
        due(35, "tapNext(): none", x.tapNext(), NONE);
        x.day(1);
        due(34, "could(): no longer glad", x.could(), 8);
        for (int n = 3; n <= 6; n++) due(33, "tap(1, 5)", x.tap(1, 5), n);
        due(33, "tap(1, 5)", x.tap(1, 5), FULL);
        due(33, "tap(1, 10)", x.tap(1, 10), OUTSIDE);
        due(33, "told(13)", x.told(13), 6);
        due(38, "tear()", x.tear(), 6);
        due(38, "told(13)", x.told(13), 0);
        due(34, "could()", x.could(), 1023);
        x.undo(1);
        due(33, "taps are not undone", x.told(13), 0);
        // All that a glass of temper 0 reads 0 by, another of temper 0 does not part.
        x = on("w1;g0 1;g0 1;");
        x.tap(0, 0);
        due(34, "could(): 0 to 5", x.could(), 63);
        due(35, "tapNext(): none parts them", x.tapNext(), NONE);
    }

    private static void writing() {
        GladGlasses x = on(COAST);
        due(36, "write(3, 11)", x.write(3, 11), UNKNOWN);
        due(36, "write(-1, 0)", x.write(-1, 0), UNKNOWN);
        due(36, "write(0, 11)", x.write(0, 11), OUTSIDE);
        due(36, "write(0, -1)", x.write(0, -1), OUTSIDE);
        due(37, "judge() of no book", x.judge(), NONE);
        due(36, "write(2, 2)", x.write(2, 2), 1);
        due(36, "write(2, 2)", x.write(2, 2), 2);
        due(37, "judge()", x.judge(), NONE);
        due(36, "write(0, 10)", x.write(0, 10), 3);
        due(36, "write(1, 0)", x.write(1, 0), 4);
        due(37, "judge(): the entry's number", x.judge(), 2);
        x.keepFrom(2);
        due(37, "judge()", x.judge(), 0);
        x.undo(1);
        due(37, "judge()", x.judge(), 2);
        for (int n = 5; n <= 20; n++) due(36, "write(0, 5)", x.write(0, 5), n);
        due(36, "write(0, 5)", x.write(0, 5), FULL);
        due(36, "write(0, 11)", x.write(0, 11), OUTSIDE);
        due(36, "told(14)", x.told(14), 20);
        x.tap(0, 1);
        due(38, "tear()", x.tear(), 21);
        due(38, "told(14)", x.told(14), 0);
        due(38, "judge()", x.judge(), NONE);
        due(38, "tear()", x.tear(), 0);
    }

    private static void seeds() {
        GladGlasses x = new GladGlasses();
        due(39, "seed(2147483647)", x.seed(HIGH), 0);
        due(39, "seed(-1)", x.seed(-1), OUTSIDE);
        due(39, "seed(LOW)", x.seed(LOW), OUTSIDE);
        due(39, "seed(0)", x.seed(0), HIGH);
        due(39, "seed(1)", x.seed(1), 0);
    }

    private static void images() {
        GladGlasses x = on(COAST);
        due(40, "keep(2)", x.keep(2), UNKNOWN);
        due(40, "keep(-1)", x.keep(-1), UNKNOWN);
        due(41, "goBack(2)", x.goBack(2), UNKNOWN);
        due(41, "goBack(-1)", x.goBack(-1), UNKNOWN);
        due(41, "goBack(0)", x.goBack(0), NOT);
        x.day(1);
        x.drink(0);
        x.glad(1, 7);
        x.weigh(2, 5);
        x.hold(1, true);
        x.seed(44);
        due(40, "keep(1)", x.keep(1), 1);
        due(40, "told(15)", x.told(15), 0);
        due(40, "undo(1)", x.undo(1), NOT);
        due(41, "goBack(0)", x.goBack(0), NOT);
        x.drift(8);
        x.find(2);
        x.tap(0, 4);
        x.write(0, 6);
        for (int i = 0; i < 2; i++) {
            due(41, "goBack(1)", x.goBack(1), 1);
            due(41, "undo(1)", x.undo(1), NOT);
            told(41, x, 5, 3, 3, 0, 1, x.tells(0), 1, x.told(7), 4, 2, 2, 7, 1, 1, 1, 0);
            due(41, "glass(0, 0)", x.glass(0, 0), 6);
            due(41, "glass(1, 3)", x.glass(1, 3), 7);
            due(41, "glass(2, 1)", x.glass(2, 1), 5);
            due(41, "logged(0, 1)", x.logged(0, 1), 7);
            due(41, "seed(3)", x.seed(3), 44);
            x.day(2);
        }
        x.keep(0);
        x.goBack(1);
        due(41, "told(4)", x.told(4), 1);
        x.goBack(0);
        due(41, "told(4)", x.told(4), 3);
        due(41, "seed(0)", x.seed(0), 3);
    }

    public static void main(String[] args) {
        aNewObject();
        feeding();
        goodTexts();
        faults();
        coasts();
        numbersTold();
        weathers();
        glasses();
        boats();
        log();
        days();
        drinks();
        gladness();
        holding();
        drifting();
        undoing();
        telling();
        catching();
        limits();
        errors();
        weights();
        stepping();
        truth();
        differing();
        fairness();
        falseness();
        rules();
        odds();
        tapping();
        writing();
        seeds();
        images();
        System.out.println(wrong == 0 ? looked + " answers are as promised" : wrong + " of " + looked + " answers are not as promised");
        if (wrong != 0) System.exit(1);
    }
}
