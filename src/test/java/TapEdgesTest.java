/** The edges of promises 33 to 38: what was tapped, the book of tempers. */
public final class TapEdgesTest {
    private TapEdgesTest() { }

    private static int couldBe(int temper, boolean glad, int x) {
        GladGlasses o = Edge.on("w1;g" + temper + " 1;");
        if (glad) o.glad(0, 1);
        o.tap(0, x);
        return o.could();
    }

    private static void tapping() {
        Edge.of("section 3", "TAPPED (6 at most): a GLASS READ x", "six, a seventh", () -> {
            GladGlasses x = Edge.on("w1;g5 1;g5 1;");
            for (int n = 1; n <= 6; n++) Edge.due("tap(0, 4)", x.tap(0, 4), n);
            Edge.due("tap(1, 5), the seventh", x.tap(1, 5), Edge.FULL);
            Edge.due("told(13)", x.told(13), 6);
            Edge.due("could(), which the refused one does not change", x.could(), 16);
        });
        Edge.of("promise 33", "TAPPED (x 0 .. 9): how much.", "0 and 9; the same again counts", () -> {
            GladGlasses x = Edge.on("w1;g5 1;");
            Edge.due("tap(0, 0)", x.tap(0, 0), 1);
            Edge.due("could()", x.could(), 1);
            Edge.due("tap(0, 0)", x.tap(0, 0), 2);
            Edge.due("tap(0, 9)", x.tap(0, 9), 3);
            x.tear();
            Edge.due("tap(0, 9)", x.tap(0, 9), 1);
            Edge.due("could()", x.could(), 512);
        });
        Edge.of("promise 33", "TAPPED (x 0 .. 9): how much.", "it is no deed, and changes no glass", () -> {
            GladGlasses x = Edge.on("w1;g5 1;");
            x.tap(0, 9);
            Edge.due("told(15)", x.told(15), 0);
            Edge.due("glass(0, 2)", x.glass(0, 2), 1);
        });
        Edge.of("section 3", "on a day of unknown WEATHER behind it (0 .. 9), TEMPER, GLAD as now.", "temper and gladness as they are when it is asked", () -> {
            GladGlasses x = Edge.on("w1;g5 1;");
            x.tap(0, 5);
            Edge.due("could()", x.could(), 32);
            x.drink(0);
            Edge.due("could(), a drink later", x.could(), 16);
            x.glad(0, 1);
            Edge.due("could(), glad", x.could(), 4);
            x.day(1);
            Edge.due("could(), no longer glad", x.could(), 16);
        });
    }

    private static void fitting() {
        Edge.of("section 3", "COULD BE: WEATHER by which all that is TAPPED is so (a SET of these).", "nothing tapped: all; what cannot be: none", () -> {
            GladGlasses x = Edge.on("w1;g5 1;g5 1;");
            Edge.due("could(), nothing tapped", x.could(), 1023);
            x.tap(0, 3);
            x.tap(1, 4);
            Edge.due("could(), both", x.could(), 0);
        });
        Edge.of("section 3", "COULD BE: WEATHER by which all that is TAPPED is so (a SET of these).", "readings at their bounds leave many, others one or none", () -> {
            Edge.due("temper 10, 9 read", couldBe(10, false, 9), 1008);
            Edge.due("temper 10, 8 read", couldBe(10, false, 8), 8);
            Edge.due("temper 10, 5 read", couldBe(10, false, 5), 1);
            Edge.due("temper 10, 4 read", couldBe(10, false, 4), 0);
            Edge.due("temper 0, 0 read", couldBe(0, false, 0), 63);
            Edge.due("temper 0, 1 read", couldBe(0, false, 1), 64);
            Edge.due("temper 0, 4 read", couldBe(0, false, 4), 512);
            Edge.due("temper 0, 5 read", couldBe(0, false, 5), 0);
        });
        Edge.of("promise 34", "COULD BE.", "glad ones at their bounds", () -> {
            Edge.due("temper 10, glad, 9 read", couldBe(10, true, 9), 1020);
            Edge.due("temper 10, glad, 6 read", couldBe(10, true, 6), 0);
            Edge.due("temper 0, glad, 0 read", couldBe(0, true, 0), 15);
            Edge.due("temper 0, glad, 6 read", couldBe(0, true, 6), 512);
            Edge.due("temper 0, glad, 7 read", couldBe(0, true, 7), 0);
        });
        Edge.of("promise 34", "COULD BE.", "the sixth tap counts as the first does", () -> {
            GladGlasses x = Edge.on("w1;g0 1;g5 1;");
            for (int i = 0; i < 5; i++) x.tap(0, 0);
            Edge.due("could()", x.could(), 63);
            x.tap(1, 5);
            Edge.due("could()", x.could(), 32);
        });
    }

    private static void tappingNext() {
        Edge.of("section 3", "the greatest part is least; of like ones the least", "the last of three, like ones, alike ones", () -> {
            Edge.due("greatest parts 6, 6, 1", Edge.on("w1;g0 1;g10 1;g5 1;").tapNext(), 2);
            Edge.due("greatest parts 6, 6", Edge.on("w1;g0 1;g10 1;").tapNext(), 0);
            Edge.due("greatest parts 6, 2", Edge.on("w1;g10 1;g4 1;").tapNext(), 1);
            Edge.due("seven alike", Edge.on("w1;" + Edge.times(7, "g5 1;")).tapNext(), 0);
        });
        Edge.of("section 3", "of like ones the least; NONE: none parts them.", "no glass; all read the same by all that is left", () -> {
            Edge.due("no glass", Edge.on("w1;").tapNext(), Edge.NONE);
            GladGlasses x = Edge.on("w1;g0 1;g0 1;");
            x.tap(0, 0);
            Edge.due("0 to 5, temper 0", x.tapNext(), Edge.NONE);
            x.drink(1);
            Edge.due("0 to 5, tempers 0, 1", x.tapNext(), 1);
        });
        Edge.of("promise 35", "TAP; NONE.", "two are left, one is left, none is left", () -> {
            GladGlasses x = Edge.on("w1;g4 1;g5 1;");
            x.tap(0, 0);
            Edge.due("could()", x.could(), 3);
            Edge.due("tapNext(), two", x.tapNext(), 1);
            x.tap(1, 1);
            Edge.due("could()", x.could(), 2);
            Edge.due("tapNext(), one", x.tapNext(), Edge.NONE);
            x.tap(1, 2);
            Edge.due("could()", x.could(), 0);
            Edge.due("tapNext(), none", x.tapNext(), Edge.NONE);
        });
        Edge.of("promise 35", "TAP; NONE.", "a glass that parts a few from many is better than none", () -> {
            GladGlasses x = Edge.on("w1;g10 1;");
            x.glad(0, 1);
            Edge.due("tapNext(): 0, 1, the others", x.tapNext(), 0);
        });
    }

    private static void book() {
        Edge.of("section 3", "THE BOOK (20 at most) tells TEMPERS", "twenty entries, one more", () -> {
            GladGlasses x = Edge.on("w1;g5 1;");
            for (int n = 1; n <= 20; n++) Edge.due("write(0, 5)", x.write(0, 5), n);
            Edge.due("write(0, 6), the 21st", x.write(0, 6), Edge.FULL);
            Edge.due("told(14)", x.told(14), 20);
            Edge.due("judge(), which the refused one does not change", x.judge(), Edge.NONE);
        });
        Edge.of("section 3", "WRONG: the first that is otherwise now; NONE.", "no book, all are right, the first, the last, several", () -> {
            GladGlasses x = Edge.on("w1;g5 1;g7 1;");
            Edge.due("judge(), no book", x.judge(), Edge.NONE);
            for (int i = 0; i < 19; i++) x.write(i % 2, i % 2 == 0 ? 5 : 7);
            Edge.due("judge(), all are right", x.judge(), Edge.NONE);
            x.write(1, 8);
            Edge.due("judge(), the twentieth", x.judge(), 19);
            x.drink(1);
            Edge.due("judge(), the second and more", x.judge(), 1);
            x.keepFrom(0);
            Edge.due("judge(), the first and more", x.judge(), 0);
            x.undo(2);
            Edge.due("judge(), as ahead of them", x.judge(), 19);
        });
        Edge.of("section 3", "WRONG: the first that is otherwise now; NONE.", "one less and one more are both otherwise", () -> {
            GladGlasses x = Edge.on("w1;g5 1;");
            x.write(0, 4);
            Edge.due("judge() of 4", x.judge(), 0);
            x.tear();
            x.write(0, 6);
            Edge.due("judge() of 6", x.judge(), 0);
        });
        Edge.of("promise 36", "An entry behind THE BOOK (0 .. 10): how many.", "0 and 10, both right", () -> {
            GladGlasses x = Edge.on("w1;g0 1;g10 1;");
            Edge.due("write(0, 0)", x.write(0, 0), 1);
            Edge.due("write(1, 10)", x.write(1, 10), 2);
            Edge.due("judge()", x.judge(), Edge.NONE);
            Edge.due("told(15), it is no deed", x.told(15), 0);
        });
        Edge.of("promise 37", "WRONG; NONE.", "an entry's number, not its glass's", () -> {
            GladGlasses x = Edge.on("w1;g5 1;g5 1;g5 1;");
            x.write(2, 5);
            x.write(1, 5);
            x.write(0, 9);
            Edge.due("judge()", x.judge(), 2);
        });
        Edge.of("promise 38", "Nothing TAPPED, no BOOK: how much both had.", "neither, one of both, both full; again", () -> {
            GladGlasses x = Edge.on("w1;g5 1;");
            Edge.due("tear(), neither", x.tear(), 0);
            x.tap(0, 1);
            Edge.due("tear(), a tap", x.tear(), 1);
            x.write(0, 1);
            Edge.due("tear(), an entry", x.tear(), 1);
            for (int i = 0; i < 6; i++) x.tap(0, 1);
            for (int i = 0; i < 20; i++) x.write(0, 1);
            Edge.due("tear(), both full", x.tear(), 26);
            Edge.due("told(13)", x.told(13), 0);
            Edge.due("told(14)", x.told(14), 0);
            Edge.due("could()", x.could(), 1023);
            Edge.due("judge()", x.judge(), Edge.NONE);
            Edge.due("tear() again", x.tear(), 0);
            Edge.due("tap(0, 1)", x.tap(0, 1), 1);
            Edge.due("write(0, 1)", x.write(0, 1), 1);
        });
    }

    static void all() {
        tapping();
        fitting();
        tappingNext();
        book();
    }

    public static void main(String[] args) {
        all();
        Edge.end();
    }
}
