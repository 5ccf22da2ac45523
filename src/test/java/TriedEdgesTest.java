import java.util.List;

/** The edges of promises 19 to 32: what is tried from now. */
public final class TriedEdgesTest {
    private TriedEdgesTest() { }

    private static void tries() {
        Edge.of("section 3", "TRIED from now, as nothing else is done; nothing changes by it.", "each call of it, on a day with something to change", () -> {
            GladGlasses x = Edge.on(Edge.COAST);
            x.seed(31);
            x.drift(4);
            x.glad(1, 3);
            x.drink(0);
            x.tap(0, 3);
            x.write(0, 3);
            List<Integer> before = Edge.allOf(x);
            x.tells(60);
            for (int b = 0; b < 3; b++) x.catches(b, 60);
            x.loses(60);
            for (int b = 0; b < 3; b++) x.bestLimit(b, 0);
            for (int g = -1; g < 3; g++) x.error(g);
            x.truest(1);
            for (int g = -1; g < 3; g++) x.bestWeights(g);
            for (int r = 0; r <= 9; r++) x.steps(r);
            x.allTrue(7, 2);
            x.differ(0);
            x.fair(9, 12);
            x.falseOnes();
            x.holds(5);
            x.homeBy(60, 1);
            x.could();
            x.tapNext();
            Edge.due("all that can be looked at", Edge.allOf(x), before);
        });
    }

    private static void telling() {
        Edge.of("section 3", "TELLS: what THE ROW tells behind n DAYS (0 .. 60).", "0: today; 60; around the numbers' end", () -> {
            GladGlasses x = Edge.on("w1,2,3,4,5,6,7;g5 1;");
            Edge.due("tells(0)", x.tells(0), x.told(5));
            Edge.due("tells(5)", x.tells(5), 7);
            Edge.due("tells(6)", x.tells(6), 1);
            Edge.due("tells(60)", x.tells(60), 6);
            x.day(6);
            Edge.due("tells(0)", x.tells(0), 1);
            Edge.due("tells(60)", x.tells(60), 5);
        });
        Edge.of("section 3", "TELLS: what THE ROW tells behind n DAYS (0 .. 60).", "gladness runs out on the way", () -> {
            GladGlasses x = Edge.on("w5;g5 1;");
            x.glad(0, 1);
            Edge.due("tells(0)", x.tells(0), 7);
            Edge.due("tells(1)", x.tells(1), 5);
            x.glad(0, 60);
            Edge.due("tells(59)", x.tells(59), 7);
            Edge.due("tells(60)", x.tells(60), 5);
        });
        Edge.of("promise 19", "TELLS.", "no glass, no weight", () -> {
            Edge.due("tells(60)", Edge.on("w9;").tells(60), 5);
            Edge.due("tells(60)", Edge.on("w9;g5 0;").tells(60), 5);
        });
    }

    private static void catchingAndLosing() {
        Edge.of("section 3", "CATCHES: by how much a BOAT's CATCH is more behind n DAYS", "0 days, 1, 59, 60", () -> {
            GladGlasses x = Edge.on("w1;b5 0;b6 0;");
            x.day(7);
            int[] days = {0, 1, 59, 60};
            for (int n : days) Edge.due("catches(0, " + n + ")", x.catches(0, n), n);
            for (int n : days) Edge.due("catches(1, " + n + "), the limit is too high", x.catches(1, n), 0);
            for (int n = 60; n >= 0; n--) Edge.due("catches(0, " + n + "), from the most days down", x.catches(0, n), n);
        });
        Edge.of("section 3", "CATCHES: by how much a BOAT's CATCH is more behind n DAYS", "it is lost on the way, at once, already; it is held", () -> {
            GladGlasses x = Edge.on("w1,8,9;b0 5;b0 9;");
            Edge.due("catches(0, 2)", x.catches(0, 2), 17);
            Edge.due("catches(0, 3), lost on the third day", x.catches(0, 3), 17);
            Edge.due("catches(0, 60)", x.catches(0, 60), 17);
            Edge.due("catches(0, 1), behind the call for more days", x.catches(0, 1), 8);
            Edge.due("catches(1, 60), lost at once", x.catches(1, 60), 0);
            x.day(1);
            Edge.due("catches(1, 60), lost already", x.catches(1, 60), 0);
            x.hold(0, true);
            Edge.due("catches(0, 60), held", x.catches(0, 60), 0);
        });
        Edge.of("promise 20", "CATCHES (n 0 .. 60).", "gladness that makes it sail ends on the way", () -> {
            GladGlasses x = Edge.on("w5;g5 1;b7 0;");
            x.glad(0, 59);
            Edge.due("catches(0, 58)", x.catches(0, 58), 290);
            Edge.due("catches(0, 59)", x.catches(0, 59), 295);
            Edge.due("catches(0, 60)", x.catches(0, 60), 295);
            x.glad(0, 60);
            Edge.due("catches(0, 60)", x.catches(0, 60), 300);
        });
        Edge.of("section 3", "LOSES: BOATS (a SET) that are LOST within n DAYS (HOME now).", "0 days; the day ahead of the loss, the day itself, later", () -> {
            GladGlasses x = Edge.on("w1,9,9;b0 0;b0 2;");
            Edge.due("loses(0)", x.loses(0), 0);
            Edge.due("loses(2)", x.loses(2), 0);
            Edge.due("loses(3)", x.loses(3), 2);
            Edge.due("loses(60)", x.loses(60), 2);
            Edge.due("loses(0) of one that is lost at once", Edge.on("w1;b0 9;").loses(0), 0);
        });
        Edge.of("section 3", "LOSES: BOATS (a SET) that are LOST within n DAYS (HOME now).", "no boat, all five; held ones, those lost already", () -> {
            Edge.due("loses(60), no boat", Edge.on("w1;").loses(60), 0);
            GladGlasses x = Edge.on("w1;" + Edge.times(5, "b5 2;"));
            Edge.due("loses(1), all", x.loses(1), 31);
            x.hold(1, true);
            Edge.due("loses(60), one held", x.loses(60), 29);
            x.day(1);
            Edge.due("loses(60), four lost already", x.loses(60), 0);
            x.find(4);
            Edge.due("loses(60), one found", x.loses(60), 16);
        });
        Edge.of("promise 21", "LOSES (n 0 .. 60).", "S is just the weather, the limit one above what the row tells", () -> {
            GladGlasses x = Edge.on("w4;b0 4;b0 5;b5 5;b6 5;");
            Edge.due("loses(60)", x.loses(60), 6);
        });
    }

    private static void best(String text, int limit, int worth) {
        GladGlasses x = Edge.on(text);
        Edge.due("bestLimit(0, 0) of " + text, x.bestLimit(0, 0), limit);
        Edge.due("bestLimit(0, 1) of " + text, x.bestLimit(0, 1), worth);
    }

    private static void limits() {
        Edge.of("section 3", "BEST LIMIT of a BOAT (as if it were HOME, not HELD)", "a held one, a lost one, with a catch already", () -> {
            GladGlasses x = Edge.on("w5;b9 0;b5 6;b5 0;");
            x.day(1);
            x.hold(0, true);
            for (int b : new int[] {0, 2}) {
                Edge.due("bestLimit(" + b + ", 0)", x.bestLimit(b, 0), 0);
                Edge.due("bestLimit(" + b + ", 1)", x.bestLimit(b, 1), 70);
            }
            Edge.due("boat(1, 2), lost", x.boat(1, 2), 0);
            Edge.due("bestLimit(1, 0)", x.bestLimit(1, 0), 6);
            Edge.due("bestLimit(1, 1)", x.bestLimit(1, 1), 0);
            x = Edge.on("w1,9;b0 2;");
            x.day(2);
            Edge.due("told(8)", x.told(8), 1);
            Edge.due("bestLimit(0, 0) of a lost one", x.bestLimit(0, 0), 6);
            Edge.due("bestLimit(0, 1) of a lost one", x.bestLimit(0, 1), 0);
        });
        Edge.of("section 3", "the one (0 .. 9) by which", "0: it may sail always; 9: only in the best; not even then", () -> {
            best("w1;b9 0;", 0, 14);
            best("w9,0;g5 1;b0 9;", 1, 63);
            best("w8,9;g5 1;b0 9;", 9, 63);
            best("w2;g10 1;b0 9;", 8, 0);
            GladGlasses x = Edge.on("w2;g10 1;b0 9;");
            x.glad(0, 60);
            Edge.due("bestLimit(0, 0), the row tells 9 in 2", x.bestLimit(0, 0), 0);
            Edge.due("bestLimit(0, 1), the row tells 9 in 2", x.bestLimit(0, 1), -20);
        });
        Edge.of("section 3", "what it CATCHES in 14 DAYS", "the fourteenth day counts, the fifteenth does not", () -> {
            best("w0,0,9,0,0,0,0,0,0,0,0,0;b0 0;", 0, 18);
            best("w0,0,0,9,0,0,0,0,0,0,0,0;b0 0;", 0, 9);
            GladGlasses x = Edge.on("w3;g5 1;b0 0;");
            x.glad(0, 14);
            Edge.due("bestLimit(0, 1)", x.bestLimit(0, 1), 42);
        });
        Edge.of("section 3", "less 20, if it is LOST in them, is most", "it catches 19, 20, 21 ahead of its loss", () -> {
            best("w1,9,8,2;b0 2;", 6, 0);
            best("w1,9,9,2;b0 2;", 0, 0);
            best("w1,9,9,3;b0 2;", 0, 1);
        });
        Edge.of("section 3", "of like ones the least; how much that is.", "limits between which nothing differs", () -> {
            best("w4;g5 1;b9 0;", 0, 56);
            best("w0,6;g5 1;b0 1;", 1, 42);
            best("w0;g5 1;b0 9;", 1, 0);
        });
    }

    private static void errors() {
        Edge.of("section 3", "in the next 12 DAYS together", "the twelfth day counts, the thirteenth does not, today does", () -> {
            GladGlasses x = Edge.on("w4;g5 1;");
            int[] due = {0, 2, 22, 24, 24};
            int[] days = {0, 1, 11, 12, 13};
            for (int i = 0; i < days.length; i++) {
                x.glad(0, days[i]);
                Edge.due("error(0), glad for " + days[i], x.error(0), due[i]);
                Edge.due("error(NONE), glad for " + days[i], x.error(Edge.NONE), due[i]);
            }
        });
        Edge.of("section 3", "is above or below tomorrow's WEATHER.", "above, below, both; as far as the bounds let it", () -> {
            GladGlasses x = Edge.on("w4;g6 1;g4 1;g10 1;g0 1;");
            int[] due = {12, 12, 60, 48};
            for (int g = 0; g < 4; g++) Edge.due("error(" + g + ")", x.error(g), due[g]);
            x = Edge.on("w9,0;g7 1;");
            Edge.due("error(0): 9 reads 9, 0 reads 2", x.error(0), 12);
        });
        Edge.of("section 3", "is above or below tomorrow's WEATHER.", "tomorrow's on each of the days, around the numbers' end", () -> {
            GladGlasses x = Edge.on("w4,9,0;g6 1;");
            Edge.due("error(0): 9 and 9, 1 and 0, 5 and 4", x.error(0), 8);
            Edge.due("error(NONE): 9 and 9, 1 and 0, 5 and 4", x.error(Edge.NONE), 8);
        });
        Edge.of("promise 23", "ERROR: g = NONE THE ROW's.", "no glass, no weight, the cut", () -> {
            Edge.due("error(NONE), no glass", Edge.on("w9,1;").error(Edge.NONE), 48);
            Edge.due("error(NONE), no weight", Edge.on("w5;g9 0;").error(Edge.NONE), 0);
            Edge.due("error(NONE): (5 + 4) / 2 of 4", Edge.on("w4;g6 1;g5 1;").error(Edge.NONE), 0);
            Edge.due("error(NONE): (4 + 3) / 2 of 4", Edge.on("w4;g4 1;g5 1;").error(Edge.NONE), 12);
        });
        Edge.of("section 3", "TRUEST: the GLASS of least ERROR; of like ones the least; its ERROR", "all alike, the last alone, alike above and below", () -> {
            GladGlasses x = Edge.on("w4;" + Edge.times(7, "g7 1;"));
            Edge.due("truest(0), all alike", x.truest(0), 0);
            Edge.due("truest(1), all alike", x.truest(1), 24);
            x.keepFrom(6);
            Edge.due("truest(0), the last", x.truest(0), 6);
            Edge.due("truest(1), the last", x.truest(1), 12);
            x = Edge.on("w4;g9 1;g6 1;g4 1;");
            Edge.due("truest(0), one above, one below", x.truest(0), 1);
        });
        Edge.of("section 3", "its ERROR; NONE: no GLASS.", "no glass, no coast", () -> {
            for (int what = 0; what < 2; what++) {
                Edge.due("truest(" + what + "), no glass", Edge.on("w4;").truest(what), Edge.NONE);
                Edge.due("truest(" + what + "), no coast", new GladGlasses().truest(what), Edge.NONE);
            }
        });
        Edge.of("promise 24", "TRUEST: what = 0 the GLASS, 1 its ERROR; NONE.", "an error of 0, the greatest there is", () -> {
            Edge.due("truest(1)", Edge.on("w4;g5 9;").truest(1), 0);
            GladGlasses x = Edge.on("w2;g10 1;");
            x.glad(0, 12);
            Edge.due("truest(1)", x.truest(1), 84);
        });
    }

    private static void weights(String text, int error, int... due) {
        GladGlasses x = Edge.on(text);
        Edge.due("bestWeights(NONE) of " + text, x.bestWeights(Edge.NONE), error);
        for (int g = 0; g < due.length; g++) Edge.due("bestWeights(" + g + ") of " + text, x.bestWeights(g), due[g]);
    }

    private static void bestWeights() {
        Edge.of("section 3", "BEST WEIGHTS: for each GLASS 0, 1 or 2", "all 0, a 2 that is needed, a 3 that would be better", () -> {
            weights("w5;g5 9;g5 9;", 0, 0, 0);
            weights("w3;g9 0;g3 0;", 0, 1, 2);
            weights("w3;g3 0;g9 0;", 0, 2, 1);
            weights("w4;g4 0;g10 0;", 12, 0, 0);
        });
        Edge.of("section 3", "of like ones the first (GLASS by GLASS the lesser)", "the later glass bears the weight", () -> {
            weights("w4;g5 1;g5 1;", 0, 0, 1);
            weights("w4;" + Edge.times(7, "g5 1;"), 0, 0, 0, 0, 0, 0, 0, 1);
            weights("w4;g5 1;" + Edge.times(6, "g9 1;"), 0, 1, 0, 0, 0, 0, 0, 0);
            weights("w6;g6 0;g6 0;", 12, 0, 0);
        });
        Edge.of("section 3", "by which THE ROW's ERROR is least", "an error of 1, then one of 0; tomorrow's weather on each of the days", () -> {
            weights("w5,5,5,5,5,5,5,5,5,5,5,6;g5 0;", 0, 1);
            weights("w4,9,0;g5 0;g6 0;", 0, 1, 0);
        });
        Edge.of("section 3", "by which THE ROW's ERROR is least", "in the next 12 days, gladness running out", () -> {
            GladGlasses x = Edge.on("w3;g5 0;");
            x.glad(0, 11);
            Edge.due("bestWeights(NONE), glad for 11 days", x.bestWeights(Edge.NONE), 22);
            Edge.due("bestWeights(0), glad for 11 days", x.bestWeights(0), 1);
            x.glad(0, 12);
            Edge.due("bestWeights(NONE), glad for 12 days", x.bestWeights(Edge.NONE), 24);
            Edge.due("bestWeights(0), glad for 12 days: of like ones the first", x.bestWeights(0), 0);
        });
        Edge.of("promise 25", "BEST WEIGHTS: g = NONE the ERROR, else a WEIGHT.", "no glass: the row tells 5; the glasses' own weights do not count", () -> {
            weights("w9,1;", 48);
            weights("w4;g5 0;", 0, 1);
            weights("w4;g5 9;", 0, 1);
        });
    }

    private static void steps(String text, int... due) {
        GladGlasses x = Edge.on(text);
        for (int r = 0; r <= 9; r++) Edge.due("steps(" + r + ") of " + text, x.steps(r), due[r]);
    }

    private static void stepping() {
        Edge.of("section 3", "each one GLASS's TEMPER one up or down, 0 .. 10", "as far as 10, as far as 0, not beyond", () -> {
            steps("w4;g5 1;", 4, 3, 2, 1, 0, 1, 2, 3, 4, 5);
            steps("w3;g5 1;", 3, 2, 1, 0, 1, 2, 3, 4, 5, Edge.NONE);
            steps("w6;g5 1;", Edge.NONE, 5, 4, 3, 2, 1, 0, 1, 2, 3);
            steps("w4;g10 1;", 9, 8, 7, 6, 5, 4, 3, 2, 1, 0);
            steps("w5;g0 1;", 0, 1, 2, 3, 4, 5, 6, 7, 8, 9);
        });
        Edge.of("section 3", "STEPS: the fewest", "readings at their bounds need no step more than to be there", () -> {
            steps("w9;g10 1;", Edge.NONE, Edge.NONE, Edge.NONE, Edge.NONE, 10, 9, 8, 7, 6, 0);
            steps("w0;g0 1;", 0, 6, 7, 8, 9, 10, Edge.NONE, Edge.NONE, Edge.NONE, Edge.NONE);
        });
        Edge.of("section 3", "so that THE ROW tells r (0 .. 9) today: how many; NONE.", "the cut helps downwards; the heavier glass", () -> {
            steps("w5;g5 1;g5 1;", 9, 7, 5, 3, 1, 0, 2, 4, 6, 8);
            GladGlasses x = Edge.on("w5;g5 9;g5 1;");
            Edge.due("steps(4)", x.steps(4), 1);
            Edge.due("steps(6)", x.steps(6), 2);
        });
        Edge.of("section 3", "so that THE ROW tells r (0 .. 9) today: how many; NONE.", "no weight: 5 alone", () -> {
            for (String text : new String[] {"w9;", "w9;g5 0;g1 0;"})
                steps(text, Edge.NONE, Edge.NONE, Edge.NONE, Edge.NONE, Edge.NONE, 0, Edge.NONE, Edge.NONE, Edge.NONE, Edge.NONE);
        });
        Edge.of("promise 26", "STEPS; NONE.", "seven glasses of weight 9, all the way", () -> {
            GladGlasses x = Edge.on("w4;" + Edge.times(7, "g10 9;"));
            Edge.due("steps(9)", x.steps(9), 0);
            Edge.due("steps(0)", x.steps(0), 57);
            x = Edge.on("w3;" + Edge.times(7, "g10 9;"));
            Edge.due("steps(8)", x.steps(8), 0);
            Edge.due("steps(9)", x.steps(9), Edge.NONE);
        });
        Edge.of("section 3", "so that THE ROW tells r (0 .. 9) today", "by tomorrow's weather, not by another day's", () -> {
            GladGlasses x = Edge.on("w9,4,0;g5 1;");
            Edge.due("steps(4)", x.steps(4), 0);
            Edge.due("steps(9)", x.steps(9), 5);
            Edge.due("steps(0)", x.steps(0), 4);
        });
        Edge.of("promise 26", "STEPS; NONE.", "gladness counts", () -> {
            GladGlasses x = Edge.on("w4;g5 1;");
            x.glad(0, 1);
            Edge.due("steps(9)", x.steps(9), 3);
            Edge.due("steps(1)", x.steps(1), 5);
            Edge.due("steps(0)", x.steps(0), Edge.NONE);
        });
    }

    private static void truth() {
        Edge.of("section 3", "so that all GLASSES of a SET have TEMPER 5 at least; how many must be KEPT from so that none has more", "0, 4, 5, 6, 10; the empty set, the full one", () -> {
            GladGlasses x = Edge.on("w1;g0 1;g4 1;g5 1;g6 1;g10 1;g5 1;g5 1;");
            int[] given = {5, 1, 0, 0, 0, 0, 0}, kept = {0, 0, 0, 1, 5, 0, 0};
            for (int g = 0; g < 7; g++) Edge.due("allTrue(1 << " + g + ", 0)", x.allTrue(1 << g, 0), given[g]);
            for (int g = 0; g < 7; g++) Edge.due("allTrue(1 << " + g + ", 1)", x.allTrue(1 << g, 1), kept[g]);
            for (int what = 0; what < 3; what++) Edge.due("allTrue(0, " + what + ")", x.allTrue(0, what), 0);
            int[] all = {6, 6, 2};
            for (int what = 0; what < 3; what++) Edge.due("allTrue(127, " + what + ")", x.allTrue(127, what), all[what]);
        });
        Edge.of("section 3", "(this one with what is left, then C each)", "just enough, one more, today and each day", () -> {
            int[] due = {1, 1, 1, 2, 2, 2, 3};
            for (int must = 1; must <= 7; must++) {
                GladGlasses x = Edge.on("w1;g" + Math.max(0, 5 - must) + " 1;g" + Math.min(5, 10 - must) + " 1;");
                Edge.due("allTrue(3, 0)", x.allTrue(3, 0), must);
                Edge.due("allTrue(3, 2) of " + must, x.allTrue(3, 2), due[must - 1]);
            }
        });
        Edge.of("section 3", "(this one with what is left, then C each)", "less is left today, nothing is left today", () -> {
            GladGlasses x = Edge.on("w1;g5 1;g4 1;g1 1;g0 1;");
            x.drink(0);
            x.drink(0);
            Edge.due("allTrue(2, 2), one of one", x.allTrue(2, 2), 1);
            Edge.due("allTrue(4, 2), one, three", x.allTrue(4, 2), 2);
            Edge.due("allTrue(8, 2), one, three, one", x.allTrue(8, 2), 3);
            x.drink(0);
            Edge.due("allTrue(2, 2), none, one", x.allTrue(2, 2), 2);
            Edge.due("allTrue(4, 2), none, three, one", x.allTrue(4, 2), 3);
        });
        Edge.of("section 3", "0 if none must; NONE: never.", "none must, with drinks, with none; some must, and none will come", () -> {
            Edge.due("allTrue(1, 2)", Edge.on("w1;g5 1;").allTrue(1, 2), 0);
            GladGlasses x = Edge.on("w1;g5 1;g4 1;d0;");
            Edge.due("allTrue(1, 2)", x.allTrue(1, 2), 0);
            Edge.due("allTrue(2, 2)", x.allTrue(2, 2), Edge.NONE);
            Edge.due("allTrue(3, 2)", x.allTrue(3, 2), Edge.NONE);
            Edge.due("allTrue(3, 0)", x.allTrue(3, 0), 1);
        });
        Edge.of("promise 27", "TRUE: what = 0 given, 1 KEPT from, 2 DAYS; NONE.", "all that can be needed, one a day, twenty a day", () -> {
            String glasses = Edge.times(7, "g0 1;");
            Edge.due("allTrue(127, 0)", Edge.on("w1;" + glasses).allTrue(127, 0), 35);
            Edge.due("allTrue(127, 2), one a day", Edge.on("w1;d1;" + glasses).allTrue(127, 2), 35);
            Edge.due("allTrue(127, 2), twenty a day", Edge.on("w1;d20;" + glasses).allTrue(127, 2), 2);
            Edge.due("allTrue(127, 1)", Edge.on("w1;" + Edge.times(7, "g10 1;")).allTrue(127, 1), 35);
        });
    }

    private static void differing() {
        Edge.of("section 3", "that READ most unlike today; of like ones the least; by how much", "all alike, the first and the last pair, pairs that are like", () -> {
            GladGlasses x = Edge.on("w4;" + Edge.times(7, "g5 1;"));
            Edge.due("differ(0), all alike", x.differ(0), 1);
            Edge.due("differ(1), all alike", x.differ(1), 0);
            x.keepFrom(6);
            Edge.due("differ(0): 0 and 6", x.differ(0), 6);
            x.drink(5);
            Edge.due("differ(0): 5 and 6", x.differ(0), 506);
            Edge.due("differ(1): 5 and 6", x.differ(1), 2);
            x = Edge.on("w4;g4 1;g6 1;g6 1;g4 1;");
            Edge.due("differ(0): 0 and 1, not 0 and 2, 1 and 3", x.differ(0), 1);
        });
        Edge.of("section 3", "by how much; NONE: fewer than two.", "none, one, two", () -> {
            for (int what = 0; what < 2; what++) {
                Edge.due("differ(" + what + ") of none", Edge.on("w4;").differ(what), Edge.NONE);
                Edge.due("differ(" + what + ") of one", Edge.on("w4;g9 1;").differ(what), Edge.NONE);
            }
            Edge.due("differ(0) of two", Edge.on("w4;g9 1;g5 1;").differ(0), 1);
            Edge.due("differ(1) of two", Edge.on("w4;g9 1;g5 1;").differ(1), 4);
        });
        Edge.of("promise 28", "DIFFER: what = 0 the two, 1 by how much; NONE.", "readings at their bounds", () -> {
            Edge.due("differ(1): 0 and 9", Edge.on("w5;g0 1;g10 1;").differ(1), 9);
            Edge.due("differ(1): 9 and 9", Edge.on("w9;g5 1;g10 1;").differ(1), 0);
        });
        Edge.of("section 3", "that READ most unlike today", "today, by tomorrow's weather; gladness of one day", () -> {
            GladGlasses x = Edge.on("w5,9,0;g0 1;g10 1;");
            Edge.due("differ(1): 4 and 9", x.differ(1), 5);
            x.glad(0, 1);
            Edge.due("differ(1): 6 and 9", x.differ(1), 3);
            x.day(1);
            Edge.due("differ(1): 0 and 5", x.differ(1), 5);
        });
    }

    private static void fairness() {
        Edge.of("section 3", "WEATHER is g (0 .. 9) or more", "just g, one more than there is, 0", () -> {
            GladGlasses x = Edge.on("w3,7,5;");
            Edge.due("fair(0, 1)", x.fair(0, 1), 0);
            Edge.due("fair(3, 1)", x.fair(3, 1), 0);
            Edge.due("fair(4, 1)", x.fair(4, 1), 1);
            Edge.due("fair(7, 1)", x.fair(7, 1), 1);
            Edge.due("fair(8, 1)", x.fair(8, 1), Edge.NONE);
            Edge.due("fair(9, 1) of 9", Edge.on("w9;").fair(9, 1), 0);
        });
        Edge.of("section 3", "for m (1 .. 12) DAYS on end, that DAY the first; NONE.", "around the numbers' end; one day too few", () -> {
            GladGlasses x = Edge.on("w5,0,5,5;");
            Edge.due("fair(5, 1)", x.fair(5, 1), 0);
            Edge.due("fair(5, 2)", x.fair(5, 2), 2);
            Edge.due("fair(5, 3)", x.fair(5, 3), 2);
            Edge.due("fair(5, 4)", x.fair(5, 4), Edge.NONE);
        });
        Edge.of("section 3", "for m (1 .. 12) DAYS on end, that DAY the first; NONE.", "twelve days: of one number, of twelve, with one that is not fair", () -> {
            Edge.due("fair(9, 12)", Edge.on("w9;").fair(9, 12), 0);
            Edge.due("fair(9, 12)", Edge.on("w9,9,9,9,9,9,9,9,9,9,9,9;").fair(9, 12), 0);
            GladGlasses x = Edge.on("w9,9,9,9,9,9,9,9,9,9,8,9;");
            Edge.due("fair(9, 10)", x.fair(9, 10), 0);
            Edge.due("fair(9, 11)", x.fair(9, 11), 11);
            Edge.due("fair(9, 12)", x.fair(9, 12), Edge.NONE);
            Edge.due("fair(8, 12)", x.fair(8, 12), 0);
        });
        Edge.of("section 3", "FAIR: behind how many DAYS (0 .. 60)", "today, the last that can be the first, from a later day", () -> {
            GladGlasses x = Edge.on("w0,0,0,0,0,0,0,0,0,0,0,9;");
            Edge.due("fair(9, 1)", x.fair(9, 1), 11);
            x.day(11);
            Edge.due("fair(9, 1), today", x.fair(9, 1), 0);
            x.day(1);
            Edge.due("fair(9, 1)", x.fair(9, 1), 11);
            Edge.due("fair(9, 2)", x.fair(9, 2), Edge.NONE);
        });
    }

    private static void fairOrNever() {
        Edge.of("promise 29", "FAIR; NONE.", "never so fair, never so long, always", () -> {
            GladGlasses x = Edge.on("w8,8,7;");
            Edge.due("fair(9, 1)", x.fair(9, 1), Edge.NONE);
            Edge.due("fair(8, 2)", x.fair(8, 2), 0);
            Edge.due("fair(8, 3)", x.fair(8, 3), Edge.NONE);
            Edge.due("fair(7, 12)", x.fair(7, 12), 0);
            Edge.due("fair(1, 1) of 0", Edge.on("w0;").fair(1, 1), Edge.NONE);
        });
    }

    private static void falseness() {
        Edge.of("section 3", "that READ otherwise today than they would, were they not GLAD.", "at 9 and at 0 gladness changes nothing, just beside them it does", () -> {
            GladGlasses x = Edge.on("w9;g4 1;g5 1;g10 1;g0 1;");
            Edge.due("falseOnes(), nobody glad", x.falseOnes(), 0);
            for (int g = 0; g < 4; g++) x.glad(g, 1);
            Edge.due("falseOnes()", x.falseOnes(), 9);
            x = Edge.on("w0;g0 1;g3 1;g4 1;g5 1;");
            for (int g = 0; g < 4; g++) x.glad(g, 1);
            Edge.due("falseOnes()", x.falseOnes(), 12);
        });
        Edge.of("section 3", "that READ otherwise today than they would, were they not GLAD.", "by tomorrow's weather", () -> {
            GladGlasses x = Edge.on("w9,0;g5 1;");
            x.glad(0, 2);
            Edge.due("falseOnes(): 2, not 0", x.falseOnes(), 1);
            x.day(1);
            Edge.due("falseOnes(): 9, as 9", x.falseOnes(), 0);
        });
        Edge.of("promise 30", "FALSE.", "no glass, all seven, the day behind", () -> {
            Edge.due("falseOnes(), no glass", Edge.on("w1;").falseOnes(), 0);
            GladGlasses x = Edge.on("w4;" + Edge.times(7, "g5 1;"));
            for (int g = 0; g < 7; g++) x.glad(g, g == 6 ? 2 : 1);
            Edge.due("falseOnes(), all", x.falseOnes(), 127);
            x.day(1);
            Edge.due("falseOnes() on the next day", x.falseOnes(), 64);
            x.day(1);
            Edge.due("falseOnes() on the day behind it", x.falseOnes(), 0);
        });
    }

    private static void rules() {
        Edge.of("section 3", "HOLDS: numbers r (0 to 9, a SET)", "an empty log: all; what breaks none, what breaks all", () -> {
            GladGlasses x = Edge.on("w2;g10 1;");
            for (int w = 0; w <= 9; w++) Edge.due("holds(" + w + "), nothing logged", x.holds(w), 1023);
            x.glad(0, 1);
            x.day(1);
            Edge.due("the row told", x.logged(0, 0), 9);
            Edge.due("holds(2)", x.holds(2), 1023);
            Edge.due("holds(3)", x.holds(3), 0);
            x = Edge.on("w5;g0 1;");
            x.day(1);
            Edge.due("the row told", x.logged(0, 0), 0);
            Edge.due("holds(6)", x.holds(6), 1022);
        });
        Edge.of("section 3", "\"whenever THE ROW told r or more, the WEATHER was w (0 .. 9) or more\" is so in THE LOG.", "just r, just w; 0 and 9", () -> {
            GladGlasses x = Edge.on("w4;");
            x.day(1);
            Edge.due("holds(0)", x.holds(0), 1023);
            Edge.due("holds(4)", x.holds(4), 1023);
            Edge.due("holds(5), told 5", x.holds(5), 960);
            Edge.due("holds(9), told 5", x.holds(9), 960);
        });
        Edge.of("promise 31", "HOLDS.", "what broke it is the twentieth, then gone from the log", () -> {
            GladGlasses x = Edge.on("w4;g5 1;");
            x.glad(0, 1);
            x.day(20);
            Edge.due("holds(5), told 6 once", x.holds(5), 896);
            x.day(1);
            Edge.due("holds(5), told 4 since", x.holds(5), 992);
        });
    }

    private static void odds() {
        Edge.of("section 3", "HOME BY: odds that n BOATS (0 .. 60) all come home, each lost by q of a hundred (0 .. 100)", "no boat, sixty; never, surely", () -> {
            GladGlasses x = new GladGlasses();
            Edge.due("homeBy(0, 0)", x.homeBy(0, 0), 1000000000);
            Edge.due("homeBy(0, 100)", x.homeBy(0, 100), 1000000000);
            Edge.due("homeBy(60, 0)", x.homeBy(60, 0), 1000000000);
            Edge.due("homeBy(1, 100)", x.homeBy(1, 100), 0);
            Edge.due("homeBy(60, 100)", x.homeBy(60, 100), 0);
        });
        Edge.of("section 3", "a BILLION times (100 less q) / 100 each (cut).", "each is cut, not the last alone; until nothing is left", () -> {
            GladGlasses x = new GladGlasses();
            Edge.due("homeBy(1, 1)", x.homeBy(1, 1), 990000000);
            Edge.due("homeBy(60, 1)", x.homeBy(60, 1), 547156620);
            Edge.due("homeBy(4, 99)", x.homeBy(4, 99), 10);
            Edge.due("homeBy(5, 99)", x.homeBy(5, 99), 0);
            Edge.due("homeBy(10, 50)", x.homeBy(10, 50), 976562);
            Edge.due("homeBy(12, 50)", x.homeBy(12, 50), 244140);
            Edge.due("homeBy(29, 50)", x.homeBy(29, 50), 1);
            Edge.due("homeBy(30, 50)", x.homeBy(30, 50), 0);
        });
    }

    static void all() {
        tries();
        telling();
        catchingAndLosing();
        limits();
        errors();
        bestWeights();
        stepping();
        truth();
        differing();
        fairness();
        fairOrNever();
        falseness();
        rules();
        odds();
    }

    public static void main(String[] args) {
        all();
        Edge.end();
    }
}
