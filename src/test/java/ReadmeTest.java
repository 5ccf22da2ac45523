import java.io.IOException;
import java.lang.reflect.Method;
import java.lang.reflect.Modifier;
import java.nio.file.Files;
import java.nio.file.Path;
import java.util.List;
import java.util.regex.Matcher;
import java.util.regex.Pattern;
import java.util.stream.Collectors;
import java.util.stream.Stream;

/** README.md is right: its example answers as it says, it names every call and every test. Runs from the project's folder. */
public final class ReadmeTest {
    private static final Pattern TEXT = Pattern.compile("\"([^\"]+)\"\\.toCharArray\\(\\)");
    private static final Pattern CALL = Pattern.compile("^x\\.(\\w+)\\(([^)]*)\\);\\s+// (-?\\d+|[A-Z]+)", Pattern.MULTILINE);
    private static final int LINES_LEAST = 10;

    private static int wrong = 0;

    private ReadmeTest() { }

    private static void fail(String why) {
        wrong++;
        System.out.println("README.md: " + why);
    }

    private static int number(String told) throws ReflectiveOperationException {
        return Character.isLetter(told.charAt(0)) ? GladGlasses.class.getField(told).getInt(null) : Integer.parseInt(told);
    }

    private static Method method(String name) {
        for (Method m : GladGlasses.class.getMethods()) if (m.getName().equals(name)) return m;
        throw new IllegalArgumentException("no call " + name);
    }

    private static Object[] arguments(String told) {
        if (told.isEmpty()) return new Object[0];
        return Stream.of(told.split(", *")).map(a -> a.equals("true") || a.equals("false") ? (Object) Boolean.valueOf(a) : (Object) Integer.valueOf(a)).toArray();
    }

    private static void example(String page) throws ReflectiveOperationException {
        int from = page.indexOf("```java"), to = page.indexOf("```", from + 7);
        String code = from < 0 || to < 0 ? "" : page.substring(from, to);
        GladGlasses x = new GladGlasses();
        Matcher text = TEXT.matcher(code);
        if (text.find()) for (char c : text.group(1).toCharArray()) x.feed(c);
        Matcher call = CALL.matcher(code);
        int lines = 0;
        for (; call.find(); lines++) {
            Object got = method(call.group(1)).invoke(x, arguments(call.group(2)));
            if (!got.equals(number(call.group(3)))) fail(call.group() + " is said, but the answer is " + got);
        }
        if (lines < LINES_LEAST) fail("only " + lines + " lines of an example were seen");
    }

    private static void names(String page) throws IOException {
        for (Method m : GladGlasses.class.getDeclaredMethods())
            if (Modifier.isPublic(m.getModifiers()) && !page.contains("`" + m.getName() + "`")) fail("the call " + m.getName() + " is not named");
        try (Stream<Path> files = Files.list(Path.of("src/test/java"))) {
            List<String> all = files.map(f -> f.getFileName().toString().replace(".java", "")).collect(Collectors.toList());
            for (String one : all) if (!page.contains("`" + one + "`")) fail("the test " + one + " is not named");
        }
        if (!page.contains("\n.ci/run\n")) fail("how to run the tests is not said");
    }

    public static void main(String[] args) throws IOException, ReflectiveOperationException {
        String page = Files.readString(Path.of("README.md"));
        example(page);
        names(page);
        System.out.println(wrong == 0 ? "README.md is as the class is" : wrong + " places of README.md are wrong");
        if (wrong != 0) System.exit(1);
    }
}
