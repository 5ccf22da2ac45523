import java.io.IOException;
import java.nio.charset.StandardCharsets;
import java.nio.file.Files;
import java.nio.file.Path;
import java.util.ArrayList;
import java.util.HashMap;
import java.util.List;
import java.util.Map;
import java.util.Set;
import java.util.TreeSet;

/**
 * A test of its own for an edge that a sentence of the document names. The sentence is looked up in
 * the document, so that a test whose sentence is no longer there is seen. Runs from the project's folder.
 * A test makes at most 512 calls on an object: what later ones answer is free.
 */
final class Edge {
    static final int NONE = -1, UNKNOWN = -1000000001, OUTSIDE = -1000000002, NOT = -1000000003, FULL = -1000000004;
    static final int LOW = Integer.MIN_VALUE, HIGH = Integer.MAX_VALUE;

    /** Weather 3, 7, 1, 8, 5; tempers 5, 7, 2 with weights 2, 1, 3; three boats; two drinks a day. */
    static final String COAST = "w3,7,1,8,5;g5 2;g7 1;g2 3;b4 3;b6 1;b2 8;d2;";
    /** Seven glasses, five boats: as many as there can be. */
    static final String FULL_COAST = "w4,6;g1 1;g2 1;g3 1;g4 1;g5 1;g6 1;g7 1;b0 0;b0 0;b0 0;b0 0;b0 0;";

    private static final Path DOCUMENT = Path.of("../shared/DOC.md");
    private static final Map<String, String> PARTS = new HashMap<>();
    private static final Map<String, Set<String>> QUOTES = new HashMap<>();

    private static String now = "";
    private static int tests = 0;
    private static int wrong = 0;
    private static boolean silent = false;

    private Edge() { }

    static void of(String part, String sentence, String edge, Runnable test) {
        tests++;
        now = part + ", '" + sentence + "', " + edge;
        QUOTES.computeIfAbsent(part, k -> new TreeSet<>()).add(sentence);
        if (!textOf(part).contains(sentence)) fail("the document does not say this there");
        try {
            test.run();
        } catch (RuntimeException thrown) {
            fail("it threw " + thrown);
        }
    }

    static void due(String call, int got, int want) {
        if (got != want) fail(call + " answered " + got + ", due is " + want);
    }

    static void due(String what, List<Integer> got, List<Integer> want) {
        if (!got.equals(want)) fail(what + ": " + got + ", due is " + want);
    }

    static void fail(String why) {
        wrong++;
        if (!silent) System.out.println(now + ": " + why);
    }

    static int wrongSoFar() { return wrong; }

    static void beSilent() { silent = true; }

    static void end() {
        System.out.println(wrong == 0 ? tests + " edges are as the document says" : wrong + " answers at " + tests + " edges are not as the document says");
        if (wrong != 0 || tests == 0) System.exit(1);
    }

    /** The sentences of a part that have had a test. */
    static Set<String> quotesOf(String part) { return QUOTES.getOrDefault(part, Set.of()); }

    /** What the document says in a part ("terms", "section 2", "promise 17"), its blanks folded. */
    static String textOf(String part) {
        if (PARTS.isEmpty()) readDocument();
        return PARTS.getOrDefault(part, "");
    }

    private static void readDocument() {
        String part = "";
        try {
            for (String line : Files.readAllLines(DOCUMENT, StandardCharsets.UTF_8)) {
                if (line.startsWith("## Terms")) part = "terms";
                else if (line.startsWith("## Promise ")) part = "promise " + line.substring(11, line.indexOf(':'));
                else if (line.startsWith("======== ")) part = "section " + line.charAt(9);
                else if (line.startsWith("## ") || line.startsWith("Ahead of the calls")) part = "else";
                PARTS.merge(part, line.strip(), (before, more) -> (before + " " + more).strip().replaceAll("\\s+", " "));
            }
        } catch (IOException e) {
            fail("the document cannot be read: " + e);
        }
    }

    static int feed(GladGlasses x, String text) {
        int last = 0;
        for (int i = 0; i < text.length(); i++) last = x.feed(text.charAt(i));
        return last;
    }

    static GladGlasses on(String text) {
        GladGlasses x = new GladGlasses();
        feed(x, text);
        int answer = x.coast();
        if (answer < 0) fail("coast() of '" + text + "' answered " + answer);
        return x;
    }

    static String times(int n, String clause) {
        return clause.repeat(n);
    }

    /** All that can be looked at, but for fault(), the images and what undone deeds would bring back; 131 calls at most. */
    static List<Integer> allOf(GladGlasses x) {
        List<Integer> all = new ArrayList<>();
        for (int what = 0; what < 16; what++) all.add(x.told(what));
        int glasses = all.get(1), boats = all.get(2), logged = all.get(12);
        for (int g = 0; g < glasses; g++) for (int what = 0; what < 4; what++) all.add(x.glass(g, what));
        for (int b = 0; b < boats; b++) for (int what = 0; what < 5; what++) all.add(x.boat(b, what));
        for (int i = 0; i < logged; i++) for (int what = 0; what < 3; what++) all.add(x.logged(i, what));
        all.add(x.could());
        all.add(x.judge());
        all.add(x.weather(0));
        int seed = x.seed(0);
        x.seed(seed);
        all.add(seed);
        return all;
    }
}
