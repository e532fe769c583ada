import java.lang.reflect.Method;
import java.lang.reflect.Modifier;
import java.net.URL;
import java.net.URLClassLoader;
import java.nio.file.Files;
import java.nio.file.Path;
import java.util.ArrayList;
import java.util.Arrays;
import java.util.List;
import java.util.regex.Matcher;
import java.util.regex.Pattern;
import javax.tools.JavaCompiler;
import javax.tools.ToolProvider;

/** README.md: its examples compile and answer what stands behind them, and its tables name each call and event. */
public final class ReadmeTest {
    private static final Path OUT = Path.of("build/ci/readme");
    /** A call with what it answers or throws, which may be followed by words behind a colon. */
    private static final Pattern ANSWERED = Pattern.compile("(disks\\.\\w+\\(.*\\)); +// (throws )?([-\\w.]+)(:.*)?");
    private static final Pattern EVENT = Pattern.compile("\\| `([pafcwrj][^`]*)` \\| `(\\w+)\\(([-0-9, ]+)\\)` \\|");
    private static final Checks CHECKS = new Checks();

    public static void main(String[] args) throws Exception {
        String text = Files.readString(Path.of("README.md"));
        examples(text);
        calls(text);
        events(text);
        CHECKS.end();
    }

    // ---- examples

    /** Called by the code that is made of the examples. */
    public static void due(String call, double got, double want) {
        CHECKS.due(call, got, want);
    }

    public static void thrown(String call, String got, String want) {
        CHECKS.isTrue(call + " throws " + got + ", due is " + want, got.equals(want));
    }

    private static void examples(String text) throws Exception {
        List<String> code = new ArrayList<>();
        Matcher block = Pattern.compile("(?s)```java\n(.*?)```").matcher(text);
        while (block.find()) {
            code.add("{");
            block.group(1).lines().map(ReadmeTest::checked).forEach(code::add);
            code.add("}");
        }
        int before = CHECKS.made();
        run("public final class ReadmeCode { public static void run() { " + String.join("\n", code) + "\n } }");
        CHECKS.isTrue("the examples have answers", CHECKS.made() - before > 20);
    }

    private static String checked(String line) {
        Matcher m = ANSWERED.matcher(line.strip());
        if (!m.matches()) {
            return line;
        }
        String call = m.group(1);
        if (m.group(2) == null) {
            return "ReadmeTest.due(\"" + call + "\", " + call + ", " + m.group(3) + ");";
        }
        return "{ String got = \"nothing\"; try { " + call + "; } catch (RuntimeException e) "
            + "{ got = e.getClass().getSimpleName(); } ReadmeTest.thrown(\"" + call + "\", got, \"" + m.group(3) + "\"); }";
    }

    private static void run(String source) throws Exception {
        Files.createDirectories(OUT);
        Path file = OUT.resolve("ReadmeCode.java");
        Files.writeString(file, source);
        JavaCompiler compiler = ToolProvider.getSystemJavaCompiler();
        int failed = compiler.run(null, null, null, "-proc:none", "-cp", System.getProperty("java.class.path"),
            "-d", OUT.toString(), file.toString());
        CHECKS.due("the examples compile", failed, 0);
        try (URLClassLoader loader = new URLClassLoader(new URL[] {OUT.toUri().toURL()})) {
            loader.loadClass("ReadmeCode").getMethod("run").invoke(null);
        }
    }

    // ---- tables

    /** Each call stands at the head of one row, with as many parameters as it has. */
    private static void calls(String text) {
        for (Method m : FreshDisks.class.getDeclaredMethods()) {
            if (!Modifier.isPublic(m.getModifiers())) {
                continue;
            }
            Matcher row = Pattern.compile("(?m)^\\| `" + m.getName() + "\\(([a-z, ]*)\\)` \\|").matcher(text);
            CHECKS.isTrue("README.md has a row for " + m.getName(), row.find());
            String names = row.group(1);
            CHECKS.due(m.getName() + " has parameters", names.isEmpty() ? 0 : names.split(", ").length, m.getParameterCount());
            CHECKS.isTrue("README.md has one row for " + m.getName(), !row.find());
        }
    }

    /** Each event does what the call beside it does, in a state in which both change something. */
    private static void events(String text) throws ReflectiveOperationException {
        Matcher row = EVENT.matcher(text);
        String letters = "";
        while (row.find()) {
            letters += row.group(1).charAt(0);
            FreshDisks typed = stateFor(row.group(1));
            FreshDisks called = stateFor(row.group(1));
            long before = called.digest();
            row.group(1).chars().forEach(typed::append);
            CHECKS.due(row.group(1) + " is carried out", typed.load(), 1);
            call(called, row.group(2), Arrays.stream(row.group(3).split(", ")).map(Integer::valueOf).toArray());
            CHECKS.same(row.group(1), typed, called);
            CHECKS.isTrue(row.group(1) + " changes something", called.digest() != before);
        }
        CHECKS.isTrue("README.md has each event, found are " + letters, letters.equals("pafcwrj"));
    }

    private static FreshDisks stateFor(String event) {
        FreshDisks x = new FreshDisks();
        x.begin(5, 2);
        x.setBarriers(false);
        x.prepare(1, 31);
        x.accept(1, 1, 3, 31);
        if ("wrj".indexOf(event.charAt(0)) >= 0) {
            x.crash(2, 0);
        }
        if (event.charAt(0) == 'j') {
            x.wipe(2);
            x.restart(2);
        }
        return x;
    }

    private static void call(FreshDisks x, String name, Object[] arguments) throws ReflectiveOperationException {
        Class<?>[] types = new Class<?>[arguments.length];
        Arrays.fill(types, int.class);
        FreshDisks.class.getMethod(name, types).invoke(x, arguments);
    }
}
