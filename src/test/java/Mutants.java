import java.io.ByteArrayOutputStream;
import java.io.IOException;
import java.io.OutputStream;
import java.net.URI;
import java.net.URL;
import java.net.URLClassLoader;
import java.nio.file.Files;
import java.nio.file.Path;
import java.util.ArrayList;
import java.util.HashMap;
import java.util.List;
import java.util.Map;
import java.util.concurrent.ExecutorService;
import java.util.concurrent.Executors;
import java.util.concurrent.Future;
import java.util.regex.Matcher;
import java.util.regex.Pattern;
import javax.tools.DiagnosticCollector;
import javax.tools.FileObject;
import javax.tools.ForwardingJavaFileManager;
import javax.tools.JavaCompiler;
import javax.tools.JavaFileManager;
import javax.tools.JavaFileObject;
import javax.tools.SimpleJavaFileObject;
import javax.tools.StandardJavaFileManager;
import javax.tools.ToolProvider;

/**
 * Breaks the class in one place after another and lists the places where no test of the edges saw it.
 * Run by hand, from the project's folder, with the folder of the compiled tests: java -cp OUT Mutants OUT
 */
final class Mutants {
    private static final Path SOURCE = Path.of("src/main/java/GladGlasses.java");
    private static final String[] TESTS = {"TextEdgesTest", "DayEdgesTest", "TapEdgesTest", "DrawEdgesTest", "TriedEdgesTest", "RefusalsTest"};
    private static final long MILLIS_MOST = 20000;

    // What is looked for, and what may stand there instead.
    private static final String[][] CHANGES = {
        {" < ", " <= ", " > "}, {" <= ", " < "}, {" > ", " >= "}, {" >= ", " > "}, {" == ", " != "}, {" != ", " == "},
        {" && ", " || "}, {" || ", " && "}, {" + ", " - "}, {" - ", " + "}, {" * ", " + "}, {" / ", " * "}, {" % ", " * "},
        {" | ", " & "}, {" & ", " | "}, {" |= ", " = "}, {" += ", " = "}, {" &= ", " = "}, {"++", "--"}, {"--", "++"},
        {"Math.min(", "Math.max("}, {"Math.max(", "Math.min("}, {"if (!", "if ("}, {"? ", "? 1 - "}, {"return ", "return 1 + "},
    };

    private record Mutant(int line, String change, String source) { }

    /** Holds the compiled classes of one mutant. */
    private static final class Memory extends ForwardingJavaFileManager<StandardJavaFileManager> {
        final Map<String, ByteArrayOutputStream> classes = new HashMap<>();

        Memory(StandardJavaFileManager below) { super(below); }

        @Override
        public JavaFileObject getJavaFileForOutput(JavaFileManager.Location where, String name, JavaFileObject.Kind kind, FileObject sibling) {
            return new SimpleJavaFileObject(URI.create("mem:///" + name + ".class"), kind) {
                @Override
                public OutputStream openOutputStream() { return classes.computeIfAbsent(name, k -> new ByteArrayOutputStream()); }
            };
        }
    }

    /** Takes the mutant from memory and the tests from their folder, all anew. */
    private static final class Loader extends URLClassLoader {
        private final Map<String, ByteArrayOutputStream> classes;

        Loader(URL tests, Map<String, ByteArrayOutputStream> classes) {
            super(new URL[] {tests}, ClassLoader.getPlatformClassLoader());
            this.classes = classes;
        }

        @Override
        protected Class<?> findClass(String name) throws ClassNotFoundException {
            ByteArrayOutputStream held = classes.get(name);
            return held == null ? super.findClass(name) : defineClass(name, held.toByteArray(), 0, held.size());
        }
    }

    private Mutants() { }

    private static List<Mutant> mutantsOf(String source) {
        List<Mutant> all = new ArrayList<>();
        String[] lines = source.split("\n", -1);
        for (int i = 0; i < lines.length; i++) {
            String code = lines[i];
            String bare = code.strip();
            if (bare.startsWith("//") || bare.startsWith("/*") || bare.startsWith("import") || code.startsWith("    public static final int NONE")) continue;
            for (String[] change : CHANGES)
                for (int at = code.indexOf(change[0]); at >= 0; at = code.indexOf(change[0], at + 1))
                    for (int k = 1; k < change.length; k++) add(all, lines, i, code.substring(0, at) + change[k] + code.substring(at + change[0].length()));
            Matcher number = Pattern.compile("(?<![\\w'])\\d+(?![\\w'])").matcher(code);
            while (number.find()) {
                long value = Long.parseLong(number.group());
                add(all, lines, i, code.substring(0, number.start()) + (value + 1) + code.substring(number.end()));
                add(all, lines, i, code.substring(0, number.start()) + (value - 1) + code.substring(number.end()));
            }
            if (bare.endsWith(";") && !bare.startsWith("return") && !bare.startsWith("case") && !bare.contains(" final ")) add(all, lines, i, "");
        }
        return all;
    }

    private static void add(List<Mutant> all, String[] lines, int i, String instead) {
        String[] changed = lines.clone();
        changed[i] = instead;
        all.add(new Mutant(i + 1, lines[i].strip() + "   =>   " + instead.strip(), String.join("\n", changed)));
    }

    /** Null if it does not compile. */
    private static Memory compiled(String source) throws IOException {
        JavaCompiler compiler = ToolProvider.getSystemJavaCompiler();
        DiagnosticCollector<JavaFileObject> unheard = new DiagnosticCollector<>();
        try (Memory memory = new Memory(compiler.getStandardFileManager(unheard, null, null))) {
            JavaFileObject text = new SimpleJavaFileObject(URI.create("string:///GladGlasses.java"), JavaFileObject.Kind.SOURCE) {
                @Override
                public CharSequence getCharContent(boolean ignore) { return source; }
            };
            return compiler.getTask(null, memory, unheard, List.of("--release", "17"), null, List.of(text)).call() ? memory : null;
        }
    }

    private static int wrongOf(Memory memory, Path tests) throws IOException, ReflectiveOperationException {
        try (Loader loader = new Loader(tests.toUri().toURL(), memory.classes)) {
            Class<?> edge = loader.loadClass("Edge");
            call(edge, "beSilent");
            for (String test : TESTS) {
                call(loader.loadClass(test), "all");
                int wrong = (Integer) call(edge, "wrongSoFar");
                if (wrong > 0) return wrong;
            }
            return 0;
        }
    }

    private static Object call(Class<?> of, String name) throws ReflectiveOperationException {
        java.lang.reflect.Method method = of.getDeclaredMethod(name);
        method.setAccessible(true);
        return method.invoke(null);
    }

    private static String look(Mutant mutant, Path tests) throws IOException, InterruptedException {
        Memory memory = compiled(mutant.source);
        if (memory == null) return "does not compile";
        int[] wrong = {-1};
        Thread run = new Thread(() -> {
            try {
                wrong[0] = wrongOf(memory, tests);
            } catch (IOException | ReflectiveOperationException | Error e) {
                wrong[0] = 1;
            }
        });
        run.setDaemon(true);
        run.start();
        run.join(MILLIS_MOST);
        return wrong[0] == 0 ? "not seen" : wrong[0] < 0 ? "seen: it does not end" : "seen";
    }

    public static void main(String[] args) throws Exception {
        if (args.length != 1) {
            System.out.println("use: java -cp OUT Mutants OUT");
            return;
        }
        Path tests = Path.of(args[0]);
        List<Mutant> all = mutantsOf(Files.readString(SOURCE));
        ExecutorService workers = Executors.newFixedThreadPool(Math.max(1, Runtime.getRuntime().availableProcessors() - 1));
        List<Future<String>> answers = new ArrayList<>();
        for (Mutant mutant : all) answers.add(workers.submit(() -> look(mutant, tests)));
        Map<String, Integer> counts = new HashMap<>();
        for (int i = 0; i < all.size(); i++) {
            String answer = answers.get(i).get();
            counts.merge(answer, 1, Integer::sum);
            if (answer.equals("not seen")) System.out.println(all.get(i).line + ": " + all.get(i).change);
        }
        System.out.println(counts);
        System.exit(0);
    }
}
