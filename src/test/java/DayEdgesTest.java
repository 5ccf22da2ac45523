import java.lang.reflect.Field;

/** The edges of section 2 and of promises 5 to 16: readings, the row, days, drinks, gladness, boats, the log. */
public final class DayEdgesTest {
    private DayEdgesTest() { }

    private static int reads(int weather, int temper, boolean glad) {
        GladGlasses x = Edge.on("w" + weather + ";g" + temper + " 1;");
        if (glad) x.glad(0, 1);
        return x.glass(0, 2);
    }

    private static int row(String glasses) {
        return Edge.on("w9;" + glasses).told(5);
    }

    private static GladGlasses pass(GladGlasses x, int days) {
        for (int left = days; left > 0; left -= 30) x.day(Math.min(left, 30));
        return x;
    }

    private static void weathers() {
        Edge.of("section 2", "DAYS are counted from 0;", "the first day, the second", () -> {
            GladGlasses x = Edge.on("w1;");
            Edge.due("told(4)", x.told(4), 0);
            x.day(1);
            Edge.due("told(4)", x.told(4), 1);
        });
        Edge.of("section 2", "WEATHER of DAY k is the number of k left over by how many.", "one number: every day", () -> {
            GladGlasses x = Edge.on("w7;");
            for (int n : new int[] {0, 1, 59, 60}) Edge.due("weather(" + n + ")", x.weather(n), 7);
        });
        Edge.of("section 2", "WEATHER of DAY k is the number of k left over by how many.", "twelve numbers: the last, the first again", () -> {
            GladGlasses x = Edge.on("w3,1,1,1,1,1,1,1,1,1,1,8;");
            Edge.due("weather(11)", x.weather(11), 8);
            Edge.due("weather(12)", x.weather(12), 3);
            Edge.due("weather(59)", x.weather(59), 8);
            Edge.due("weather(60)", x.weather(60), 3);
            x.day(11);
            Edge.due("weather(0) on day 11", x.weather(0), 8);
            Edge.due("weather(1) on day 11", x.weather(1), 3);
            x.day(1);
            Edge.due("weather(0) on day 12", x.weather(0), 3);
        });
        Edge.of("section 2", "WEATHER of DAY k is the number of k left over by how many.", "seven numbers, day 9030: 0 is left over", () -> {
            GladGlasses x = pass(Edge.on("w2,9,9,9,9,9,6;"), 9030);
            Edge.due("told(4)", x.told(4), 9030);
            Edge.due("weather(0)", x.weather(0), 2);
            Edge.due("weather(6)", x.weather(6), 6);
            Edge.due("weather(7)", x.weather(7), 2);
        });
        Edge.of("section 2", "WEATHER of tomorrow (the DAY behind this one)", "on the last of the numbers it is the first", () -> {
            GladGlasses x = Edge.on("w4,8;g5 1;");
            Edge.due("glass(0, 2) on day 0", x.glass(0, 2), 8);
            x.day(1);
            Edge.due("glass(0, 2) on day 1", x.glass(0, 2), 4);
            Edge.due("glass(0, 2), one number", Edge.on("w6;g5 1;").glass(0, 2), 6);
        });
    }

    private static void readings() {
        Edge.of("section 2", "0 at least, 9 at most.", "just 0, below it, far below it", () -> {
            Edge.due("0 and 5 less 5", reads(0, 5, false), 0);
            Edge.due("0 and 4 less 5", reads(0, 4, false), 0);
            Edge.due("0 and 0 less 5", reads(0, 0, false), 0);
            Edge.due("4 and 0 less 5", reads(4, 0, false), 0);
            Edge.due("5 and 0 less 5", reads(5, 0, false), 0);
            Edge.due("6 and 0 less 5", reads(6, 0, false), 1);
        });
        Edge.of("section 2", "0 at least, 9 at most.", "just 9, above it, far above it", () -> {
            Edge.due("9 and 5 less 5", reads(9, 5, false), 9);
            Edge.due("9 and 6 less 5", reads(9, 6, false), 9);
            Edge.due("9 and 10 less 5", reads(9, 10, false), 9);
            Edge.due("4 and 10 less 5", reads(4, 10, false), 9);
            Edge.due("3 and 10 less 5", reads(3, 10, false), 8);
        });
        Edge.of("section 2", "and 2, if it is GLAD; 0 at least, 9 at most.", "the bounds come last", () -> {
            Edge.due("0 and 4 less 5 and 2", reads(0, 4, true), 1);
            Edge.due("0 and 3 less 5 and 2", reads(0, 3, true), 0);
            Edge.due("0 and 0 less 5 and 2", reads(0, 0, true), 0);
            Edge.due("9 and 3 less 5 and 2", reads(9, 3, true), 9);
            Edge.due("9 and 4 less 5 and 2", reads(9, 4, true), 9);
            Edge.due("9 and 10 less 5 and 2", reads(9, 10, true), 9);
            Edge.due("2 and 10 less 5 and 2", reads(2, 10, true), 9);
            Edge.due("1 and 10 less 5 and 2", reads(1, 10, true), 8);
        });
    }

    private static void rows() {
        Edge.of("section 2", "/ all WEIGHTS together (cut)", "halves and more are cut", () -> {
            Edge.due("(8 + 7) / 2", row("g4 1;g3 1;"), 7);
            Edge.due("(9 + 9 + 8) / 3", row("g5 1;g5 1;g4 1;"), 8);
            Edge.due("(9 * 9 + 8) / 10", row("g5 9;g4 1;"), 8);
            Edge.due("(9 * 8 + 9) / 10", row("g4 9;g5 1;"), 8);
        });
        Edge.of("section 2", "/ all WEIGHTS together (cut)", "seven glasses of weight 9, the least and the most", () -> {
            Edge.due("all read 9", row(Edge.times(7, "g10 9;")), 9);
            Edge.due("all read 0", Edge.on("w0;" + Edge.times(7, "g0 9;")).told(5), 0);
        });
        Edge.of("section 2", "all WEIGHTS times what their GLASSES READ", "a glass without weight does not count", () -> {
            Edge.due("one of two", row("g2 1;g10 0;"), 6);
            Edge.due("the other of two", row("g10 0;g2 9;"), 6);
        });
        Edge.of("section 2", "5 without any WEIGHT.", "no glass, glasses of weight 0", () -> {
            Edge.due("no glass", row(""), 5);
            Edge.due("one of weight 0", row("g10 0;"), 5);
            Edge.due("seven of weight 0", row(Edge.times(7, "g0 0;")), 5);
        });
    }

    private static void deeds() {
        Edge.of("section 2", "A DRINK given: one that there is this DAY is gone, TEMPER one more (10 at most).", "from 9 to 10, then no more", () -> {
            GladGlasses x = Edge.on("w1;g9 1;");
            Edge.due("drink(0)", x.drink(0), 10);
            Edge.due("told(6)", x.told(6), 2);
            Edge.due("drink(0) at 10", x.drink(0), Edge.NOT);
            Edge.due("told(6)", x.told(6), 2);
            Edge.due("glass(0, 0)", x.glass(0, 0), 10);
        });
        Edge.of("section 2", "KEPT from it: TEMPER one less (0 at least).", "from 1 to 0, then no less", () -> {
            GladGlasses x = Edge.on("w1;g1 1;");
            Edge.due("keepFrom(0)", x.keepFrom(0), 0);
            Edge.due("keepFrom(0) at 0", x.keepFrom(0), Edge.NOT);
            Edge.due("glass(0, 0)", x.glass(0, 0), 0);
            Edge.due("told(6)", x.told(6), 3);
        });
        Edge.of("section 2", "GLAD: for n DAYS from now on (instead of those left).", "fewer, none, instead of more; nothing is added", () -> {
            GladGlasses x = Edge.on("w1;g5 1;");
            x.glad(0, 60);
            x.glad(0, 1);
            Edge.due("glass(0, 3)", x.glass(0, 3), 1);
            x.glad(0, 2);
            Edge.due("glass(0, 3)", x.glass(0, 3), 2);
            x.glad(0, 0);
            Edge.due("glass(0, 3)", x.glass(0, 3), 0);
            Edge.due("told(10)", x.told(10), 0);
            Edge.due("glass(0, 2)", x.glass(0, 2), 1);
        });
        Edge.of("section 2", "GLAD: for n DAYS from now on (instead of those left).", "its last day, the day behind it", () -> {
            GladGlasses x = Edge.on("w1;g5 1;");
            x.glad(0, 2);
            x.day(1);
            Edge.due("glass(0, 2) on the last day", x.glass(0, 2), 3);
            x.day(1);
            Edge.due("glass(0, 2) behind it", x.glass(0, 2), 1);
        });
        Edge.of("section 2", "A BOAT is HOME or LOST (HOME at first), HELD or not (not at first).", "at first", () -> {
            GladGlasses x = Edge.on(Edge.FULL_COAST);
            Edge.due("told(8)", x.told(8), 0);
            Edge.due("told(9)", x.told(9), 0);
            for (int b = 0; b < 5; b++) Edge.due("boat(" + b + ", 2..4)", x.boat(b, 2) * 100 + x.boat(b, 3) * 10 + x.boat(b, 4), 100);
        });
    }

    private static void sailing() {
        Edge.of("section 2", "each BOAT that is HOME, not HELD, SAILS, if THE ROW tells LIMIT or more", "one more than the limit, the limit, one less", () -> {
            GladGlasses x = Edge.on("w9;b4 0;b5 0;b6 0;");
            Edge.due("told(7), the row tells 5", x.told(7), 3);
            x.day(1);
            Edge.due("boat(0, 4)", x.boat(0, 4), 9);
            Edge.due("boat(1, 4)", x.boat(1, 4), 9);
            Edge.due("boat(2, 4)", x.boat(2, 4), 0);
        });
        Edge.of("section 2", "each BOAT that is HOME, not HELD, SAILS, if THE ROW tells LIMIT or more", "held ones and lost ones do not", () -> {
            GladGlasses x = Edge.on("w1,9;b0 0;b0 9;b0 0;");
            x.hold(0, true);
            x.day(2);
            Edge.due("told(8)", x.told(8), 2);
            Edge.due("the held one's catch", x.boat(0, 4), 0);
            Edge.due("the lost one's catch", x.boat(1, 4), 9);
            Edge.due("told(7)", x.told(7), 4);
            x.day(1);
            Edge.due("the lost one's catch", x.boat(1, 4), 9);
            Edge.due("how many sailed", x.logged(0, 2), 1);
        });
        Edge.of("section 2", "in tomorrow's WEATHER below S it is LOST, else it CATCHES as much as that WEATHER", "S one less, the same, one more", () -> {
            GladGlasses x = Edge.on("w4;b0 3;b0 4;b0 5;");
            Edge.due("day(1)", x.day(1), 2);
            Edge.due("told(8)", x.told(8), 4);
            Edge.due("boat(0, 4)", x.boat(0, 4), 4);
            Edge.due("boat(1, 4)", x.boat(1, 4), 4);
            Edge.due("boat(2, 4)", x.boat(2, 4), 0);
        });
        Edge.of("section 2", "in tomorrow's WEATHER below S it is LOST, else it CATCHES as much as that WEATHER", "weather 0 with S 0, 1; weather 9 with S 9", () -> {
            GladGlasses x = Edge.on("w0;b0 0;b0 1;");
            x.day(1);
            Edge.due("told(8)", x.told(8), 2);
            Edge.due("told(11)", x.told(11), 0);
            x = Edge.on("w9;b0 9;");
            x.day(1);
            Edge.due("boat(0, 2)", x.boat(0, 2), 1);
            Edge.due("boat(0, 4)", x.boat(0, 4), 9);
        });
        Edge.of("section 2", "in tomorrow's WEATHER below S it is LOST", "tomorrow's, not today's", () -> {
            GladGlasses x = Edge.on("w0,9;b0 5;");
            Edge.due("day(1)", x.day(1), 1);
            Edge.due("day(1)", x.day(1), 0);
            Edge.due("boat(0, 4)", x.boat(0, 4), 9);
        });
        Edge.of("section 2", "(999999 at most)", "a catch near it, which no 512 calls can reach", () -> {
            GladGlasses x = Edge.on("w9;b0 0;b0 0;");
            catchesOf(x)[0] = 999985;
            catchesOf(x)[1] = 999981;
            Edge.due("catches(0, 1)", x.catches(0, 1), 9);
            Edge.due("catches(0, 60)", x.catches(0, 60), 14);
            x.day(2);
            Edge.due("boat(0, 4)", x.boat(0, 4), 999999);
            Edge.due("boat(1, 4)", x.boat(1, 4), 999999);
            x.day(1);
            Edge.due("boat(0, 4)", x.boat(0, 4), 999999);
            Edge.due("told(11)", x.told(11), 1999998);
        });
        Edge.of("section 2", "FOUND: a LOST BOAT is HOME.", "it sails again, a held one does not", () -> {
            GladGlasses x = Edge.on("w1,9;b0 5;b0 5;");
            x.day(2);
            Edge.due("told(8)", x.told(8), 3);
            x.hold(1, true);
            x.find(0);
            x.find(1);
            Edge.due("told(8)", x.told(8), 0);
            Edge.due("told(9)", x.told(9), 2);
            Edge.due("told(7)", x.told(7), 1);
            x.day(1);
            Edge.due("boat(0, 4)", x.boat(0, 4), 18);
            Edge.due("boat(1, 4)", x.boat(1, 4), 9);
        });
    }

    // 512 calls bring a boat's catch to 81270 at most: the bound is only seen by a look inside.
    private static int[] catchesOf(GladGlasses x) {
        try {
            Field state = GladGlasses.class.getDeclaredField("now");
            state.setAccessible(true);
            Field caught = state.get(x).getClass().getDeclaredField("caught");
            caught.setAccessible(true);
            return (int[]) caught.get(state.get(x));
        } catch (ReflectiveOperationException e) {
            throw new IllegalStateException("the catches are held elsewhere now: mend this test", e);
        }
    }

    private static void log() {
        Edge.of("section 2", "THE LOG keeps the latest 20 DAYS", "none, 19, 20, 21, 41 days", () -> {
            for (int days : new int[] {0, 1, 19, 20, 21, 40, 41}) {
                GladGlasses x = pass(Edge.on("w0,1,2,3,4,5,6,7,8,9;"), days);
                int kept = Math.min(days, 20);
                Edge.due("told(12) on day " + days, x.told(12), kept);
                for (int i = 0; i < kept; i++) Edge.due("logged(" + i + ", 1) on day " + days, x.logged(i, 1), (days - i) % 10);
                Edge.due("logged(" + kept + ", 1) on day " + days, x.logged(kept, 1), Edge.NONE);
            }
        });
        Edge.of("section 2", "what THE ROW told, tomorrow's WEATHER, how many SAILED.", "the row ahead of the day; the lost one sailed, the held and those with a higher limit did not", () -> {
            GladGlasses x = Edge.on("w2,4;g6 1;b0 0;b5 5;b5 0;b6 0;b0 0;");
            x.hold(4, true);
            x.glad(0, 0);
            x.day(1);
            Edge.due("logged(0, 0)", x.logged(0, 0), 5);
            Edge.due("logged(0, 1)", x.logged(0, 1), 4);
            Edge.due("logged(0, 2)", x.logged(0, 2), 3);
            x.day(1);
            Edge.due("logged(0, 0)", x.logged(0, 0), 3);
            Edge.due("logged(0, 1)", x.logged(0, 1), 2);
            Edge.due("logged(0, 2)", x.logged(0, 2), 1);
        });
        Edge.of("section 2", "Then each that is GLAD is so a DAY less", "behind the sailing; none is below 0", () -> {
            GladGlasses x = Edge.on("w5;g5 1;g5 0;b7 0;");
            x.glad(0, 1);
            x.day(1);
            Edge.due("boat(0, 4), told 7", x.boat(0, 4), 5);
            Edge.due("glass(0, 3)", x.glass(0, 3), 0);
            Edge.due("glass(1, 3)", x.glass(1, 3), 0);
            x.day(1);
            Edge.due("boat(0, 4), told 5", x.boat(0, 4), 5);
            Edge.due("glass(0, 3)", x.glass(0, 3), 0);
        });
        Edge.of("section 2", "there are C DRINKS again, DAYS are one more.", "none were given, some, all; nothing is saved up", () -> {
            GladGlasses x = Edge.on("w1;g0 1;d2;");
            x.day(1);
            Edge.due("told(6)", x.told(6), 2);
            x.drink(0);
            x.day(1);
            Edge.due("told(6)", x.told(6), 2);
            x.drink(0);
            x.drink(0);
            Edge.due("told(6)", x.told(6), 0);
            x.day(30);
            Edge.due("told(6)", x.told(6), 2);
            Edge.due("told(4)", x.told(4), 32);
            x = Edge.on("w1;g0 1;d0;");
            x.day(1);
            Edge.due("told(6), C is 0", x.told(6), 0);
        });
    }

    private static void told() {
        Edge.of("promise 5", "0 numbers of THE WEATHER, 1 GLASSES, 2 BOATS, 3 letters of THE TEXT", "the fewest, the most", () -> {
            GladGlasses x = Edge.on("w1;");
            Edge.due("told(0..3)", x.told(0) * 1000 + x.told(1) * 100 + x.told(2) * 10 + x.told(3), 1000);
            x = Edge.on("w0,0,0,0,0,0,0,0,0,0,0,0;" + Edge.times(7, "g1 1;") + Edge.times(5, "b1 1;"));
            Edge.due("told(0)", x.told(0), 12);
            Edge.due("told(1)", x.told(1), 7);
            Edge.due("told(2)", x.told(2), 5);
            Edge.feed(x, " ".repeat(240));
            Edge.due("told(3)", x.told(3), 240);
        });
        Edge.of("promise 5", "5 what THE ROW tells today (NONE without a COAST)", "without a coast, without a glass", () -> {
            Edge.due("told(5)", new GladGlasses().told(5), Edge.NONE);
            Edge.due("told(5)", Edge.on("w9;").told(5), 5);
        });
        Edge.of("promise 5", "6 DRINKS that there are today", "all, the last, none", () -> {
            GladGlasses x = Edge.on("w1;g0 1;d2;");
            Edge.due("told(6)", x.told(6), 2);
            x.drink(0);
            Edge.due("told(6)", x.told(6), 1);
            x.drink(0);
            Edge.due("told(6)", x.told(6), 0);
        });
        Edge.of("promise 5", "7 BOATS that would SAIL today, 8 that are LOST, 9 HELD (SETS)", "none, all five", () -> {
            GladGlasses x = Edge.on("w1;" + Edge.times(5, "b5 9;"));
            Edge.due("told(7)", x.told(7), 31);
            for (int b = 0; b < 5; b++) x.hold(b, true);
            Edge.due("told(7)", x.told(7), 0);
            Edge.due("told(9)", x.told(9), 31);
            for (int b = 0; b < 5; b++) x.hold(b, false);
            Edge.due("told(9)", x.told(9), 0);
            x.day(1);
            Edge.due("told(8)", x.told(8), 31);
            Edge.due("told(7)", x.told(7), 0);
        });
        Edge.of("promise 5", "10 GLASSES that are GLAD (a SET), 11 what was caught in all", "a day left, no day left; the lost boat's catch counts", () -> {
            GladGlasses x = Edge.on("w1,9;g5 0;g5 0;b0 5;b0 0;");
            x.glad(1, 1);
            Edge.due("told(10)", x.told(10), 2);
            x.day(1);
            Edge.due("told(10)", x.told(10), 0);
            x.day(1);
            Edge.due("told(8)", x.told(8), 1);
            Edge.due("told(11)", x.told(11), 19);
        });
        Edge.of("promise 5", "13 what was TAPPED, 14 entries of THE BOOK, 15 how many can be undone.", "none, all that there can be", () -> {
            GladGlasses x = Edge.on("w1;g5 1;");
            Edge.due("told(13..15)", x.told(13) + x.told(14) + x.told(15), 0);
            for (int i = 0; i < 7; i++) x.tap(0, 1);
            for (int i = 0; i < 21; i++) x.write(0, 5);
            for (int i = 0; i < 31; i++) x.weigh(0, 1);
            Edge.due("told(13)", x.told(13), 6);
            Edge.due("told(14)", x.told(14), 20);
            Edge.due("told(15)", x.told(15), 30);
        });
    }

    private static void looks() {
        Edge.of("promise 6", "WEATHER behind n DAYS (0 .. 60).", "0, 60, from a later day", () -> {
            GladGlasses x = Edge.on("w1,2,3,4,5,6,7;");
            Edge.due("weather(0)", x.weather(0), 1);
            Edge.due("weather(60)", x.weather(60), 5);
            x.day(6);
            Edge.due("weather(0)", x.weather(0), 7);
            Edge.due("weather(60)", x.weather(60), 4);
        });
        Edge.of("promise 7", "Of a GLASS: what = 0 TEMPER, 1 WEIGHT, 2 what it READS, 3 DAYS that it is GLAD yet.", "the first and the last glass, 60 days", () -> {
            GladGlasses x = Edge.on("w4;g1 2;" + Edge.times(5, "g5 5;") + "g8 9;");
            x.glad(6, 60);
            int[] first = {1, 2, 0, 0}, last = {8, 9, 9, 60};
            for (int what = 0; what < 4; what++) Edge.due("glass(0, " + what + ")", x.glass(0, what), first[what]);
            for (int what = 0; what < 4; what++) Edge.due("glass(6, " + what + ")", x.glass(6, what), last[what]);
            x.day(30);
            x.day(29);
            Edge.due("glass(6, 3) on the last day", x.glass(6, 3), 1);
            x.day(1);
            Edge.due("glass(6, 3) behind it", x.glass(6, 3), 0);
        });
        Edge.of("promise 8", "Of a BOAT: what = 0 LIMIT, 1 S, 2 1 HOME, 0 LOST, 3 1 HELD, 0 not, 4 its CATCH.", "the first and the last boat", () -> {
            GladGlasses x = Edge.on("w3;b2 9;" + Edge.times(3, "b0 0;") + "b4 1;");
            x.day(1);
            x.hold(4, true);
            int[] first = {2, 9, 0, 0, 0}, last = {4, 1, 1, 1, 3};
            for (int what = 0; what < 5; what++) Edge.due("boat(0, " + what + ")", x.boat(0, what), first[what]);
            for (int what = 0; what < 5; what++) Edge.due("boat(4, " + what + ")", x.boat(4, what), last[what]);
        });
        Edge.of("promise 9", "Of THE LOG, 0 the latest", "one day, two days", () -> {
            GladGlasses x = Edge.on("w1,2,3;");
            x.day(1);
            Edge.due("logged(0, 1)", x.logged(0, 1), 2);
            x.day(1);
            Edge.due("logged(0, 1)", x.logged(0, 1), 3);
            Edge.due("logged(1, 1)", x.logged(1, 1), 2);
        });
        Edge.of("promise 9", "how many SAILED; NONE.", "an empty log, one behind the last, far off, below 0", () -> {
            Edge.due("logged(0, 0)", new GladGlasses().logged(0, 0), Edge.NONE);
            GladGlasses x = Edge.on("w1;b0 0;");
            for (int what = 0; what < 3; what++) Edge.due("logged(0, " + what + ")", x.logged(0, what), Edge.NONE);
            x.day(1);
            for (int i : new int[] {1, 19, 20, -1, Edge.LOW, Edge.HIGH}) Edge.due("logged(" + i + ", 0)", x.logged(i, 0), Edge.NONE);
            x.day(30);
            Edge.due("logged(19, 2)", x.logged(19, 2), 1);
            for (int i : new int[] {20, 21, 40, -1, Edge.LOW, Edge.HIGH}) Edge.due("logged(" + i + ", 2)", x.logged(i, 2), Edge.NONE);
        });
    }

    private static void days() {
        Edge.of("promise 10", "n DAYS (1 .. 30): how many BOATS are HOME.", "1 and 30 days", () -> {
            GladGlasses x = Edge.on("w1;b0 0;");
            Edge.due("day(1)", x.day(1), 1);
            Edge.due("told(4)", x.told(4), 1);
            Edge.due("day(30)", x.day(30), 1);
            Edge.due("told(4)", x.told(4), 31);
            Edge.due("boat(0, 4)", x.boat(0, 4), 31);
        });
        Edge.of("promise 10", "n DAYS (1 .. 30): how many BOATS are HOME.", "no boat, all five, none of five; the held one is home", () -> {
            Edge.due("day(1), no boat", Edge.on("w1;").day(1), 0);
            Edge.due("day(30), all", Edge.on(Edge.FULL_COAST).day(30), 5);
            GladGlasses x = Edge.on("w1;" + Edge.times(5, "b0 2;"));
            x.hold(2, true);
            Edge.due("day(1), one held", x.day(1), 1);
            x.hold(2, false);
            Edge.due("day(1), none", x.day(1), 0);
        });
        Edge.of("promise 10", "FULL: DAYS are above 9000.", "on day 9000, 9001", () -> {
            GladGlasses x = pass(Edge.on("w1;b0 0;"), 9000);
            Edge.due("told(4)", x.told(4), 9000);
            Edge.due("day(1) on day 9000", x.day(1), 1);
            Edge.due("day(1) on day 9001", x.day(1), Edge.FULL);
            Edge.due("told(4)", x.told(4), 9001);
            Edge.due("boat(0, 4)", x.boat(0, 4), 9001);
        });
        Edge.of("promise 10", "FULL: DAYS are above 9000.", "thirty days from day 9000 on, back again", () -> {
            GladGlasses x = pass(Edge.on("w1;"), 9000);
            Edge.due("day(30) on day 9000", x.day(30), 0);
            Edge.due("told(4)", x.told(4), 9030);
            Edge.due("day(30) on day 9030", x.day(30), Edge.FULL);
            Edge.due("undo(30)", x.undo(30), 9000);
            Edge.due("day(1) on day 9000", x.day(1), 0);
        });
    }

    private static void drinks() {
        Edge.of("promise 11", "A DRINK given: TEMPER.", "from 0, to 10", () -> {
            GladGlasses x = Edge.on("w1;g0 1;d20;");
            for (int temper = 1; temper <= 10; temper++) Edge.due("drink(0)", x.drink(0), temper);
            Edge.due("told(6)", x.told(6), 10);
        });
        Edge.of("promise 11", "NOT: there is none, TEMPER is 10.", "there is none, at first and behind the last one", () -> {
            Edge.due("drink(0) of none", Edge.on("w1;g5 1;d0;").drink(0), Edge.NOT);
            GladGlasses x = Edge.on("w1;g5 1;g5 1;d1;");
            Edge.due("drink(0), the last", x.drink(0), 6);
            Edge.due("drink(0), none left", x.drink(0), Edge.NOT);
            Edge.due("drink(1), none left", x.drink(1), Edge.NOT);
            Edge.due("told(6)", x.told(6), 0);
            Edge.due("glass(1, 0)", x.glass(1, 0), 5);
            x.day(1);
            Edge.due("drink(1) on the next day", x.drink(1), 6);
        });
        Edge.of("promise 11", "NOT: there is none, TEMPER is 10.", "temper is 10", () -> {
            GladGlasses x = Edge.on("w1;g10 1;g9 1;");
            Edge.due("drink(0)", x.drink(0), Edge.NOT);
            Edge.due("drink(1)", x.drink(1), 10);
            Edge.due("drink(1)", x.drink(1), Edge.NOT);
            Edge.due("told(6)", x.told(6), 2);
        });
        Edge.of("promise 12", "KEPT from it: TEMPER.", "from 10, to 0; no drink is needed, none comes back", () -> {
            GladGlasses x = Edge.on("w1;g10 1;d0;");
            for (int temper = 9; temper >= 0; temper--) Edge.due("keepFrom(0)", x.keepFrom(0), temper);
            Edge.due("told(6)", x.told(6), 0);
        });
        Edge.of("promise 12", "NOT: TEMPER is 0.", "at first, behind the last one", () -> {
            GladGlasses x = Edge.on("w1;g0 1;g1 1;");
            Edge.due("keepFrom(0)", x.keepFrom(0), Edge.NOT);
            Edge.due("keepFrom(1)", x.keepFrom(1), 0);
            Edge.due("keepFrom(1)", x.keepFrom(1), Edge.NOT);
            Edge.due("told(15)", x.told(15), 1);
        });
    }

    private static void otherDeeds() {
        Edge.of("promise 13", "GLAD (n 0 .. 60): DAYS that it was to be yet.", "0 and 60; what is left of 60", () -> {
            GladGlasses x = Edge.on("w1;g5 1;");
            Edge.due("glad(0, 60)", x.glad(0, 60), 0);
            x.day(1);
            Edge.due("glad(0, 0)", x.glad(0, 0), 59);
            Edge.due("glad(0, 0)", x.glad(0, 0), 0);
            Edge.due("told(10)", x.told(10), 0);
            Edge.due("told(15), those that change nothing are deeds too", x.told(15), 4);
        });
        Edge.of("promise 14", "WEIGHED (0 .. 9): what it was.", "0 and 9", () -> {
            GladGlasses x = Edge.on("w9;g5 1;g1 1;");
            Edge.due("weigh(0, 9)", x.weigh(0, 9), 1);
            Edge.due("told(5)", x.told(5), 8);
            Edge.due("weigh(0, 0)", x.weigh(0, 0), 9);
            Edge.due("told(5)", x.told(5), 5);
            Edge.due("weigh(1, 0)", x.weigh(1, 0), 1);
            Edge.due("told(5), no weight is left", x.told(5), 5);
            Edge.due("weigh(0, 9)", x.weigh(0, 9), 0);
            Edge.due("told(5)", x.told(5), 9);
        });
        Edge.of("promise 15", "HELD (is), or not: 1 it was, 0 not.", "held again, freed again; a lost one", () -> {
            GladGlasses x = Edge.on("w1;b0 9;b0 0;");
            Edge.due("hold(1, false)", x.hold(1, false), 0);
            Edge.due("hold(1, true)", x.hold(1, true), 0);
            Edge.due("hold(1, true)", x.hold(1, true), 1);
            Edge.due("told(9)", x.told(9), 2);
            Edge.due("hold(1, false)", x.hold(1, false), 1);
            Edge.due("hold(1, false)", x.hold(1, false), 0);
            Edge.due("told(15)", x.told(15), 5);
            x.day(1);
            Edge.due("hold(0, true) of a lost one", x.hold(0, true), 0);
            Edge.due("boat(0, 2)", x.boat(0, 2), 0);
            Edge.due("told(9)", x.told(9), 1);
        });
        Edge.of("promise 16", "FOUND: how many are LOST yet.", "the first of five, the last", () -> {
            GladGlasses x = Edge.on("w1;" + Edge.times(5, "b0 2;"));
            x.day(1);
            for (int b = 4; b >= 0; b--) Edge.due("find(" + b + ")", x.find(b), b);
            Edge.due("told(8)", x.told(8), 0);
        });
        Edge.of("promise 16", "NOT: it is HOME.", "at first, when it was found already, when it is held", () -> {
            GladGlasses x = Edge.on("w1;b0 0;b0 9;");
            Edge.due("find(1) at first", x.find(1), Edge.NOT);
            x.day(1);
            Edge.due("find(0), which came home", x.find(0), Edge.NOT);
            Edge.due("find(1)", x.find(1), 0);
            Edge.due("find(1) again", x.find(1), Edge.NOT);
            x.hold(0, true);
            Edge.due("find(0), which is held", x.find(0), Edge.NOT);
        });
    }

    static void all() {
        weathers();
        readings();
        rows();
        deeds();
        sailing();
        log();
        told();
        looks();
        days();
        drinks();
        otherDeeds();
    }

    public static void main(String[] args) {
        all();
        Edge.end();
    }
}
