import java.io.IOException;
import java.nio.charset.StandardCharsets;
import java.nio.file.Files;
import java.nio.file.Path;
import java.util.regex.Matcher;
import java.util.regex.Pattern;

/** Rules of LANGUAGE.md that can be seen in the source's text. Runs from the project's folder. */
public final class RulesTest {
    private static final String[][] RULED_OUT = {
        {"6: no exceptions", "\\b(throw|throws|try|catch|synchronized|assert)\\b"},
        {"2: no lambda, no method reference", "->|::"},
        {"2: no anonymous class", "new\\s+\\w+\\s*\\([^)]*\\)\\s*\\{"},
        {"13: no clock, chance, outside world", "\\b(Random|Thread|File|Files|Path|Clock|Instant|currentTimeMillis|nanoTime|getenv|getProperty)\\b"},
        {"4: the library", "\\b(HashMap|Map|Set|Stream|Optional|Objects|Collections|String\\.format|printf|System\\.out)\\b"},
        {"4: nothing that ends in Exact", "Exact\\b"},
        {"5: no static block", "static\\s*\\{"},
        {"4: no other import", "import (?!java\\.util\\.Arrays;)"},
        {"the file has no package", "^package\\b"},
        {"3: whole numbers only", "\\b(double|float)\\b"},
        {"6: no equals, hashCode, toString", "\\b(equals|hashCode|toString)\\b"},
        {"9: no loop without a bound", "while\\s*\\(\\s*true|for\\s*\\(\\s*;"},
    };

    private static int wrong = 0;

    private static void fail(String rule, int line) {
        wrong++;
        System.out.println("rule " + rule + ": line " + line);
    }

    private static void ruledOut(String code) {
        for (String[] rule : RULED_OUT) {
            Matcher m = Pattern.compile(rule[1], Pattern.MULTILINE).matcher(code);
            while (m.find()) fail(rule[0], lineOf(code, m.start()));
        }
    }

    private static int lineOf(String code, int at) {
        return (int) code.substring(0, at).chars().filter(c -> c == '\n').count() + 1;
    }

    private static void methods(String code) {
        Matcher m = Pattern.compile("^ {4,8}(?:[\\w\\[\\]]+ )*\\w+\\(([^)]*)\\) \\{$", Pattern.MULTILINE).matcher(code);
        int seen = 0;
        while (m.find()) {
            seen++;
            String indent = code.substring(m.start(), m.end()).replaceAll("\\S.*", "");
            int end = code.indexOf("\n" + indent + "}", m.end());
            int first = lineOf(code, m.start());
            if (end < 0 || lineOf(code, end) - first > 60) fail("11: some sixty lines a method", first);
            if (m.group(1).split(",").length > 7) fail("11: seven parameters", first);
        }
        if (seen < 100) fail("(only " + seen + " methods were seen)", 0);
    }

    public static void main(String[] args) throws IOException {
        String source = Files.readString(Path.of("src/main/java/GladGlasses.java"), StandardCharsets.US_ASCII);
        String code = source.replaceAll("//[^\n]*", "").replaceAll("/\\*\\*[^\n]*\\*/", "");
        ruledOut(code);
        methods(code);
        System.out.println(wrong == 0 ? "the source keeps to the rules looked for" : wrong + " places break a rule");
        if (wrong != 0) System.exit(1);
    }
}
