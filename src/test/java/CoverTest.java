import java.util.ArrayList;
import java.util.List;
import java.util.regex.Matcher;
import java.util.regex.Pattern;

/** Wherever the document's words name a bound, an empty or full thing, a wrap-around or a refusal, a test of the edges quotes them. */
public final class CoverTest {
    private static final Pattern EDGE_WORDS = Pattern.compile(
        "\\d+ \\.\\. \\d+|\\d+ to \\d+|\\bat most\\b|\\bat least\\b|\\bat first\\b|\\bNONE\\b|\\bUNKNOWN\\b|\\bOUTSIDE\\b|\\bNOT\\b|\\bFULL\\b"
        + "|\\bempty\\b|\\bof like ones\\b|\\bwithout\\b|\\bleft over\\b|\\buntold\\b|\\bonce\\b|\\bagain\\b|\\bcut\\b|\\bgone\\b|\\bnever\\b"
        + "|\\bor more\\b|\\bbelow\\b|\\babove\\b|\\bfewer\\b|\\bfirst\\b|\\blatest\\b|\\bstays\\b|\\bNo COAST\\b|\\bnothing\\b");

    /** This tells how the document is written, not an edge of what it promises. */
    private static final String NO_EDGE = "Words in capitals are told where they come first.";

    private CoverTest() { }

    private static List<String> parts() {
        List<String> all = new ArrayList<>(List.of("terms", "section 1", "section 2", "section 3"));
        for (int promise = 1; promise <= 41; promise++) all.add("promise " + promise);
        return all;
    }

    private static void look(String part) {
        String text = Edge.textOf(part);
        boolean[] quoted = new boolean[text.length()];
        for (String quote : Edge.quotesOf(part))
            for (int at = text.indexOf(quote); at >= 0; at = text.indexOf(quote, at + 1))
                for (int i = at; i < at + quote.length(); i++) quoted[i] = true;
        if (Edge.quotesOf(part).isEmpty()) Edge.fail(part + " has no test");
        Matcher words = EDGE_WORDS.matcher(text.replace(NO_EDGE, " ".repeat(NO_EDGE.length())));
        while (words.find()) {
            if (quoted[words.start()]) continue;
            int from = Math.max(0, words.start() - 40), to = Math.min(text.length(), words.end() + 30);
            Edge.fail(part + " says '.." + text.substring(from, to) + "..', and no test quotes it");
        }
    }

    public static void main(String[] args) {
        TextEdgesTest.all();
        DayEdgesTest.all();
        DrawEdgesTest.all();
        TriedEdgesTest.all();
        TapEdgesTest.all();
        RefusalsTest.all();
        for (String part : parts()) look(part);
        Edge.end();
    }
}
