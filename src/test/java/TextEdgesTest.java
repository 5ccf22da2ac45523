/** The edges of the document's terms, of its section 1 and of promises 1 to 4: the text and its faults. */
public final class TextEdgesTest {
    private static final String TWELVE = "w1,2,3,4,5,6,7,8,9,0,1,2";

    private TextEdgesTest() { }

    private static void fault(String text, int kind, int at) {
        GladGlasses x = new GladGlasses();
        Edge.feed(x, text);
        Edge.due("coast() of '" + text + "'", x.coast(), -10 - kind);
        Edge.due("fault() of '" + text + "'", x.fault(), at);
    }

    private static GladGlasses good(String text, int glasses) {
        GladGlasses x = new GladGlasses();
        Edge.feed(x, text);
        Edge.due("coast() of '" + text + "'", x.coast(), glasses);
        Edge.due("fault() of '" + text + "'", x.fault(), Edge.NONE);
        return x;
    }

    private static void terms() {
        Edge.of("terms", "What has a number has it from 0 on, as it comes.", "the first glass and boat, the last ones, those behind", () -> {
            GladGlasses x = good("w1;b1 2;g3 1;g4 2;b3 4;", 2);
            Edge.due("glass(0, 0)", x.glass(0, 0), 3);
            Edge.due("glass(1, 0)", x.glass(1, 0), 4);
            Edge.due("glass(2, 0)", x.glass(2, 0), Edge.UNKNOWN);
            Edge.due("boat(0, 0)", x.boat(0, 0), 1);
            Edge.due("boat(1, 0)", x.boat(1, 0), 3);
            Edge.due("boat(2, 0)", x.boat(2, 0), Edge.UNKNOWN);
        });
        Edge.of("terms", "A SET is a whole number, bit k for k.", "the empty set, the last bit, the full set", () -> {
            GladGlasses x = good(Edge.FULL_COAST, 7);
            Edge.due("told(10), nobody glad", x.told(10), 0);
            x.glad(6, 1);
            x.hold(4, true);
            Edge.due("told(10), the last glass", x.told(10), 64);
            Edge.due("told(9), the last boat", x.told(9), 16);
            for (int g = 0; g < 6; g++) x.glad(g, 1);
            for (int b = 0; b < 4; b++) x.hold(b, true);
            Edge.due("told(10), all", x.told(10), 127);
            Edge.due("told(9), all", x.told(9), 31);
        });
        Edge.of("terms", "They are far below all that is counted: -1000000001 and on.", "the constants", () -> {
            Edge.due("UNKNOWN", GladGlasses.UNKNOWN, -1000000001);
            Edge.due("OUTSIDE", GladGlasses.OUTSIDE, -1000000002);
            Edge.due("NOT", GladGlasses.NOT, -1000000003);
            Edge.due("FULL", GladGlasses.FULL, -1000000004);
        });
        Edge.of("terms", "NONE is -1.", "the constant", () -> Edge.due("NONE", GladGlasses.NONE, -1));
    }

    private static void weatherClause() {
        Edge.of("section 1", "THE COAST is told in a text (240 letters at most)", "a text of 240 letters, its last one read", () -> {
            String head = "w1;g1 1;";
            good(head + " ".repeat(240 - head.length() - 5) + "b1 1;", 1);
            fault(head + " ".repeat(240 - head.length() - 1) + "x", 1, 239);
        });
        Edge.of("section 1", "1 to 12 numbers, 0 .. 9", "no number", () -> {
            fault("w;", 1, 1);
            fault("w,1;", 1, 1);
            fault("w1,;", 1, 3);
        });
        Edge.of("section 1", "1 to 12 numbers, 0 .. 9", "one number, twelve", () -> {
            Edge.due("told(0)", good("w1;", 0).told(0), 1);
            GladGlasses x = good(TWELVE + ";", 0);
            Edge.due("told(0)", x.told(0), 12);
            Edge.due("weather(11)", x.weather(11), 2);
        });
        Edge.of("section 1", "a 13th G: at its ','", "thirteen numbers", () -> {
            fault(TWELVE + ",3;", 1, 24);
            fault(TWELVE + "  ,3;", 1, 26);
        });
        Edge.of("section 1", "1 to 12 numbers, 0 .. 9", "the numbers 0, 9, 10", () -> {
            GladGlasses x = good("w0,9;", 0);
            Edge.due("weather(0)", x.weather(0), 0);
            Edge.due("weather(1)", x.weather(1), 9);
            fault("w10;", 2, 1);
            fault("w0,10;", 2, 3);
            fault("w0,999;", 2, 3);
        });
        Edge.of("section 1", "the higher the fairer; first, once", "another clause first", () -> {
            fault("g5 1;w1;", 1, 0);
            fault("b5 1;w1;", 1, 0);
            fault("  d5;w1;", 1, 2);
        });
        Edge.of("section 1", "the higher the fairer; first, once", "'w' twice, also behind other clauses", () -> {
            fault("w1;w2;", 3, 3);
            fault("w1;g1 1; w2;", 3, 9);
        });
    }

    private static void otherClauses() {
        Edge.of("section 1", "7 GLASSES at most", "none, seven, eight", () -> {
            good("w1;", 0);
            Edge.due("glass(6, 0)", good("w1;" + Edge.times(6, "g1 1;") + "g9 1;", 7).glass(6, 0), 9);
            fault("w1;" + Edge.times(8, "g1 1;"), 3, 38);
        });
        Edge.of("section 1", "TEMPER T, 0 .. 10", "0, 10, 11", () -> {
            GladGlasses x = good("w1;g0 1;g10 1;", 2);
            Edge.due("glass(0, 0)", x.glass(0, 0), 0);
            Edge.due("glass(1, 0)", x.glass(1, 0), 10);
            fault("w1;g11 1;", 2, 4);
        });
        Edge.of("section 1", "WEIGHT N, 0 .. 9", "0, 9, 10", () -> {
            GladGlasses x = good("w1;g1 0;g1 9;", 2);
            Edge.due("glass(0, 1)", x.glass(0, 1), 0);
            Edge.due("glass(1, 1)", x.glass(1, 1), 9);
            fault("w1;g1 10;", 2, 6);
        });
        Edge.of("section 1", "5 BOATS at most", "none, five, six", () -> {
            Edge.due("told(2)", good("w1;", 0).told(2), 0);
            GladGlasses x = good("w1;" + Edge.times(4, "b1 1;") + "b7 8;", 0);
            Edge.due("told(2)", x.told(2), 5);
            Edge.due("boat(4, 0)", x.boat(4, 0), 7);
            Edge.due("boat(4, 1)", x.boat(4, 1), 8);
            fault("w1;" + Edge.times(6, "b1 1;"), 3, 28);
        });
        Edge.of("section 1", "LIMIT L, 0 .. 9", "0, 9, 10", () -> {
            GladGlasses x = good("w1;b0 1;b9 1;", 0);
            Edge.due("boat(0, 0)", x.boat(0, 0), 0);
            Edge.due("boat(1, 0)", x.boat(1, 0), 9);
            fault("w1;b10 1;", 2, 4);
        });
        Edge.of("section 1", "is lost in WEATHER below S, 0 .. 9", "0, 9, 10", () -> {
            GladGlasses x = good("w1;b1 0;b1 9;", 0);
            Edge.due("boat(0, 1)", x.boat(0, 1), 0);
            Edge.due("boat(1, 1)", x.boat(1, 1), 9);
            fault("w1;b1 10;", 2, 6);
        });
        Edge.of("section 1", "DRINKS there are a day, 0 .. 20", "0, 20, 21", () -> {
            Edge.due("told(6)", good("w1;d0;", 0).told(6), 0);
            Edge.due("told(6)", good("w1;d20;", 0).told(6), 20);
            fault("w1;d21;", 2, 4);
        });
        Edge.of("section 1", "3 untold; once", "untold, also behind a coast that told them", () -> {
            GladGlasses x = good("w1;d9;", 0);
            Edge.feed(x, "w1;");
            x.coast();
            Edge.due("told(6)", x.told(6), 3);
            x.day(1);
            Edge.due("told(6) on the next day", x.told(6), 3);
        });
        Edge.of("section 1", "3 untold; once", "told twice, the first time 0", () -> {
            fault("w1;d1;d2;", 3, 6);
            fault("w1;d0;d0;", 3, 6);
        });
    }

    private static void numbersAndBlanks() {
        Edge.of("section 1", "NUMBERS have one to three figures", "one, three with noughts ahead", () -> {
            GladGlasses x = good("w9;g010 009;b000 9;d020;", 1);
            Edge.due("glass(0, 0)", x.glass(0, 0), 10);
            Edge.due("glass(0, 1)", x.glass(0, 1), 9);
            Edge.due("boat(0, 0)", x.boat(0, 0), 0);
            Edge.due("told(6)", x.told(6), 20);
        });
        Edge.of("section 1", "2 a NUMBER of four figures or more", "four figures, in bounds else; very many", () -> {
            fault("w0001;", 2, 1);
            fault("w1;g 0001 1;", 2, 5);
            fault("w1;d0000;", 2, 4);
            fault("w" + "9".repeat(200) + ";", 2, 1);
            fault("w" + "0".repeat(200) + "1;", 2, 1);
            fault("w4294967297;", 2, 1);
            fault("w1;d18446744073709551617;", 2, 4);
        });
        Edge.of("section 1", "or out of its bounds (at its first)", "at the first figure, not at a blank or the last figure", () -> {
            fault("w   123;", 2, 4);
            fault("w1, 010;", 2, 4);
            fault("w1;g5  11;", 2, 7);
        });
        Edge.of("section 1", "a word is one letter", "a word of two letters, a capital", () -> {
            fault("ww1;", 1, 1);
            fault("w1;gg1 1;", 1, 4);
            fault("W1;", 1, 0);
            fault("w1;D1;", 1, 3);
        });
        Edge.of("section 1", "blanks (32) may stand anywhere but within NUMBERS", "ahead of all, between all, behind all", () -> {
            GladGlasses x = good("  w  3 , 4  ;  g  5   2  ;  b  6  7 ;  d  8  ;  ", 1);
            Edge.due("told(0)", x.told(0), 2);
            Edge.due("glass(0, 0)", x.glass(0, 0), 5);
            Edge.due("glass(0, 1)", x.glass(0, 1), 2);
            Edge.due("boat(0, 1)", x.boat(0, 1), 7);
            Edge.due("told(6)", x.told(6), 8);
        });
        Edge.of("section 1", "blanks (32) may stand anywhere but within NUMBERS", "a blank within a number makes two of it", () -> {
            fault("w1 0;", 1, 3);
            fault("w1;g1 0 5;", 1, 8);
            fault("w1;d1 0;", 1, 6);
        });
        Edge.of("section 1", "blanks (32) may stand anywhere but within NUMBERS", "what looks like a blank is none", () -> {
            for (int sign : new int[] {0, 9, 10, 13, 31, 33, 160, 255}) fault("w1;" + (char) sign, 1, 3);
            fault("w1;g1\t1;", 1, 5);
        });
        Edge.of("section 1", "two NUMBERS side by side need one", "none between them: one number is read", () -> {
            fault("w1;g52;", 2, 4);
            fault("w1;g10;", 1, 6);
            fault("w1;b05;", 1, 6);
        });
    }

    private static void faults() {
        Edge.of("section 1", "FAULTS, at the first letter that has one", "the first counts, also where a later one is less", () -> {
            fault("w10;x", 2, 1);
            fault("w1;w x", 3, 3);
            fault("w1;g11 99;", 2, 4);
            fault("w1;g1 99 x", 2, 6);
            fault("w1;d1;d99", 3, 6);
        });
        Edge.of("section 1", "(the end at the text's length)", "the text ends too soon, blanks behind it", () -> {
            fault("w", 1, 1);
            fault("w1", 1, 2);
            fault("w1,", 1, 3);
            fault("w1   ", 1, 5);
            fault("w1;g", 1, 4);
            fault("w1;g1", 1, 5);
            fault("w1;g1 1", 1, 7);
            fault("w1;b1 1 ", 1, 8);
            fault("w1;d1", 1, 5);
        });
        Edge.of("section 1", "(the end at the text's length)", "figures at the end of 240 letters; figures of a longer text that was there before", () -> {
            fault("w1;" + " ".repeat(236) + "g", 1, 240);
            fault("w1;g1" + " ".repeat(234) + "1", 1, 240);
            GladGlasses x = new GladGlasses();
            Edge.feed(x, "w1234567;");
            x.coast();
            Edge.feed(x, "w1");
            Edge.due("coast() of 'w1'", x.coast(), -11);
            Edge.due("fault() of 'w1'", x.fault(), 2);
        });
        Edge.of("section 1", "of these the least", "a letter with two faults", () -> {
            fault("w1;7777", 1, 3);
            fault("w1 99;", 1, 3);
            fault("w1w2;", 1, 2);
            fault("w1;d1d2;", 1, 5);
            fault("w1;" + Edge.times(6, "g1 1;") + "g1 1g", 1, 37);
            fault(TWELVE + ",9999;", 1, 24);
        });
        Edge.of("section 1", "a letter that is no word", "letters next to the words, next to the figures", () -> {
            for (char c : "acefhvx0/:,;-".toCharArray()) fault("w1;" + c, 1, 3);
            fault("w/;", 1, 1);
            fault("w:;", 1, 1);
            fault("w-1;", 1, 1);
        });
        Edge.of("section 1", "another word first than 'w'", "each of them, no word at all", () -> {
            for (char c : "gbdx7;".toCharArray()) fault(String.valueOf(c), 1, 0);
        });
        Edge.of("section 1", "3 'w', 'd' again, an eighth 'g', a sixth 'b' (at it)", "at the letter, whatever comes behind it", () -> {
            fault("w1; w", 3, 4);
            fault("w1;d1; d", 3, 7);
            fault("w1;" + Edge.times(7, "g1 1;") + " gx", 3, 39);
            fault("w1;" + Edge.times(5, "b1 1;") + " b999", 3, 29);
        });
        Edge.of("section 1", "An empty text: no COAST.", "on a new object, on one with a coast", () -> {
            GladGlasses x = new GladGlasses();
            Edge.due("coast()", x.coast(), 0);
            Edge.due("fault()", x.fault(), Edge.NONE);
            Edge.due("told(5)", x.told(5), Edge.NONE);
            x = Edge.on(Edge.COAST);
            Edge.due("coast()", x.coast(), 0);
            Edge.due("fault()", x.fault(), Edge.NONE);
            for (int what = 0; what < 16; what++) Edge.due("told(" + what + ")", x.told(what), what == 5 ? Edge.NONE : 0);
            Edge.due("glass(0, 0)", x.glass(0, 0), Edge.UNKNOWN);
            Edge.due("boat(0, 0)", x.boat(0, 0), Edge.UNKNOWN);
            Edge.due("day(1)", x.day(1), Edge.NOT);
        });
    }

    private static void newObject() {
        Edge.of("promise 1", "No COAST.", "nothing is there", () -> {
            GladGlasses x = new GladGlasses();
            for (int what = 0; what < 16; what++) Edge.due("told(" + what + ")", x.told(what), what == 5 ? Edge.NONE : 0);
            Edge.due("glass(0, 0)", x.glass(0, 0), Edge.UNKNOWN);
            Edge.due("boat(0, 0)", x.boat(0, 0), Edge.UNKNOWN);
            Edge.due("logged(0, 0)", x.logged(0, 0), Edge.NONE);
            Edge.due("fault()", x.fault(), Edge.NONE);
            Edge.due("seed(0)", x.seed(0), 0);
            Edge.due("goBack(0)", x.goBack(0), Edge.NOT);
            Edge.due("goBack(1)", x.goBack(1), Edge.NOT);
        });
        Edge.of("promise 1", "No COAST.", "each call that needs one", () -> {
            GladGlasses x = new GladGlasses();
            Edge.due("weather(0)", x.weather(0), Edge.NOT);
            Edge.due("day(1)", x.day(1), Edge.NOT);
            Edge.due("drift(1)", x.drift(1), Edge.NOT);
            Edge.due("tells(0)", x.tells(0), Edge.NOT);
            Edge.due("error(NONE)", x.error(Edge.NONE), Edge.NOT);
            Edge.due("bestWeights(NONE)", x.bestWeights(Edge.NONE), Edge.NOT);
            Edge.due("steps(5)", x.steps(5), Edge.NOT);
            Edge.due("fair(0, 1)", x.fair(0, 1), Edge.NOT);
        });
        Edge.of("promise 1", "No COAST.", "each call that needs none", () -> {
            GladGlasses x = new GladGlasses();
            Edge.due("loses(60)", x.loses(60), 0);
            Edge.due("truest(0)", x.truest(0), Edge.NONE);
            Edge.due("truest(1)", x.truest(1), Edge.NONE);
            Edge.due("allTrue(0, 0)", x.allTrue(0, 0), 0);
            Edge.due("allTrue(0, 1)", x.allTrue(0, 1), 0);
            Edge.due("allTrue(0, 2)", x.allTrue(0, 2), 0);
            Edge.due("differ(0)", x.differ(0), Edge.NONE);
            Edge.due("differ(1)", x.differ(1), Edge.NONE);
            Edge.due("falseOnes()", x.falseOnes(), 0);
            Edge.due("holds(9)", x.holds(9), 1023);
            Edge.due("homeBy(1, 50)", x.homeBy(1, 50), 500000000);
            Edge.due("could()", x.could(), 1023);
            Edge.due("tapNext()", x.tapNext(), Edge.NONE);
            Edge.due("judge()", x.judge(), Edge.NONE);
            Edge.due("tear()", x.tear(), 0);
            Edge.due("keep(0)", x.keep(0), 1);
            Edge.due("goBack(0)", x.goBack(0), 1);
        });
    }

    private static void feeding() {
        Edge.of("promise 2", "A letter (0 .. 255) comes behind THE TEXT: how many it has.", "the least letter, the most", () -> {
            GladGlasses x = new GladGlasses();
            Edge.due("feed(0)", x.feed(0), 1);
            Edge.due("feed(255)", x.feed(255), 2);
            Edge.due("told(3)", x.told(3), 2);
            Edge.due("coast()", x.coast(), -11);
            Edge.due("fault()", x.fault(), 0);
        });
        Edge.of("promise 2", "OUTSIDE, FULL (240).", "letters that there are not", () -> {
            GladGlasses x = new GladGlasses();
            x.feed('w');
            for (int letter : new int[] {-1, 256, Edge.LOW, Edge.HIGH, 'w' + 256}) Edge.due("feed(" + letter + ")", x.feed(letter), Edge.OUTSIDE);
            Edge.due("told(3)", x.told(3), 1);
        });
        Edge.of("promise 2", "OUTSIDE, FULL (240).", "the 240th letter, the 241st", () -> {
            GladGlasses x = new GladGlasses();
            Edge.due("the 239th feed", Edge.feed(x, "w1;" + " ".repeat(236)), 239);
            Edge.due("the 240th feed", x.feed(' '), 240);
            Edge.due("the 241st feed", x.feed('x'), Edge.FULL);
            Edge.due("told(3)", x.told(3), 240);
            Edge.due("coast(), which the refused letter does not spoil", x.coast(), 0);
            Edge.due("feed(119) behind coast()", x.feed('w'), 1);
        });
    }

    private static GladGlasses muchDone() {
        GladGlasses x = Edge.on(Edge.COAST);
        x.seed(77);
        x.drift(3);
        x.keep(1);
        x.drift(2);
        x.drink(0);
        x.glad(1, 9);
        x.weigh(2, 9);
        x.hold(1, true);
        x.tap(0, 3);
        x.write(0, 3);
        return x;
    }

    private static void coasts() {
        Edge.of("promise 3", "THE TEXT (it is empty then, with a FAULT, too) becomes THE COAST", "the text behind a good one, behind a fault", () -> {
            GladGlasses x = new GladGlasses();
            Edge.feed(x, "w1;");
            x.coast();
            Edge.due("told(3)", x.told(3), 0);
            Edge.feed(x, "w1;x");
            x.coast();
            Edge.due("told(3)", x.told(3), 0);
            Edge.feed(x, "w2;g1 1;");
            Edge.due("coast(), of the new letters alone", x.coast(), 1);
        });
        Edge.of("promise 3", "(DAY 0, nobody GLAD, all BOATS HOME, no CATCH, THE LOG is empty;", "behind much that was done", () -> {
            GladGlasses x = muchDone();
            Edge.feed(x, Edge.COAST);
            Edge.due("coast()", x.coast(), 3);
            x.seed(0);
            GladGlasses fresh = Edge.on(Edge.COAST);
            Edge.due("all that can be looked at", Edge.allOf(x), Edge.allOf(fresh));
        });
        Edge.of("promise 3", "nothing TAPPED, no BOOK;", "behind a tap and an entry", () -> {
            GladGlasses x = muchDone();
            Edge.feed(x, "w1;g1 1;");
            x.coast();
            Edge.due("told(13)", x.told(13), 0);
            Edge.due("told(14)", x.told(14), 0);
            Edge.due("could()", x.could(), 1023);
            Edge.due("judge()", x.judge(), Edge.NONE);
            Edge.due("tear()", x.tear(), 0);
        });
        Edge.of("promise 3", "IMAGES, what could be undone are gone;", "both images, all deeds", () -> {
            GladGlasses x = muchDone();
            x.keep(0);
            x.day(1);
            Edge.feed(x, Edge.COAST);
            x.coast();
            Edge.due("goBack(0)", x.goBack(0), Edge.NOT);
            Edge.due("goBack(1)", x.goBack(1), Edge.NOT);
            Edge.due("told(15)", x.told(15), 0);
            Edge.due("undo(1)", x.undo(1), Edge.NOT);
        });
        Edge.of("promise 3", "THE SEED stays", "behind a good text, an empty one, a fault", () -> {
            GladGlasses x = Edge.on("w1;");
            x.seed(2147483647);
            Edge.feed(x, "w1;");
            x.coast();
            x.coast();
            Edge.feed(x, "x");
            x.coast();
            Edge.due("seed(0)", x.seed(0), 2147483647);
        });
        Edge.of("promise 3", "how many GLASSES; -10 less the number of its FAULT", "0, 7, each fault", () -> {
            good("w1;b1 1;", 0);
            good(Edge.FULL_COAST, 7);
            fault("w1", 1, 2);
            fault("w10;", 2, 1);
            fault("w1;w1;", 3, 3);
        });
        Edge.of("promise 3", "(all is as it was)", "behind a fault, whose text had glasses, boats, drinks", () -> {
            GladGlasses x = muchDone();
            Edge.feed(x, "w9,9,9;g1 1;b1 1;d20;x");
            Edge.due("coast()", x.coast(), -11);
            Edge.due("all that can be looked at", Edge.allOf(x), Edge.allOf(muchDone()));
            Edge.due("undo(5)", x.undo(5), 4);
            Edge.due("goBack(1)", x.goBack(1), 1);
            Edge.due("told(4)", x.told(4), 3);
        });
    }

    private static void whereTheFaultIs() {
        Edge.of("promise 4", "The letter of the FAULT of the latest coast(); NONE.", "ahead of any coast()", () -> Edge.due("fault()", new GladGlasses().fault(), Edge.NONE));
        Edge.of("promise 4", "The letter of the FAULT of the latest coast(); NONE.", "letter 0, letter 239, the end at 240", () -> {
            fault("x", 1, 0);
            fault("w1;" + " ".repeat(236) + "x", 1, 239);
            fault("w1" + " ".repeat(238), 1, 240);
        });
        Edge.of("promise 4", "The letter of the FAULT of the latest coast(); NONE.", "a later fault, a good text, an empty one behind it; it stays while letters are fed", () -> {
            GladGlasses x = new GladGlasses();
            Edge.feed(x, "w10;");
            x.coast();
            Edge.feed(x, "w1;x");
            Edge.due("fault() ahead of the next coast()", x.fault(), 1);
            x.coast();
            Edge.due("fault()", x.fault(), 3);
            Edge.feed(x, "w1;");
            x.coast();
            Edge.due("fault()", x.fault(), Edge.NONE);
            x.feed('x');
            x.coast();
            x.coast();
            Edge.due("fault() behind an empty text", x.fault(), Edge.NONE);
        });
    }

    static void all() {
        terms();
        weatherClause();
        otherClauses();
        numbersAndBlanks();
        faults();
        newObject();
        feeding();
        coasts();
        whereTheFaultIs();
    }

    public static void main(String[] args) {
        all();
        Edge.end();
    }
}
