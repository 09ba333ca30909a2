import java.io.IOException;
import java.net.URL;
import java.net.URLClassLoader;
import java.nio.file.Files;
import java.nio.file.Path;
import java.util.ArrayList;
import java.util.List;
import java.util.regex.Matcher;
import java.util.regex.Pattern;
import javax.tools.JavaCompiler;
import javax.tools.ToolProvider;

/** The examples of README.md are compiled and run, and each answer that they show is asked for. */
public final class ReadmeTest {
    /** What the compiled examples hand their calls to. */
    public interface Call {
        Object answer();
    }

    private static final Checks checks = new Checks();
    private static final Path README = Path.of("README.md");
    private static final String NAME = "ReadmeExamples";
    private static final Pattern SHOWN =
            Pattern.compile("(crickets\\..*\\));\\s*// (answers|throws) (.*)");
    private static final int LEAST_SHOWN = 30;

    private static int shown = 0;

    public static void main(String[] args) throws IOException {
        List<String> examples = examplesOf(Files.readAllLines(README));
        checks.test("every comment of the examples tells an answer", () -> eachIsRead(examples));
        Path folder = Files.createTempDirectory("readme");
        try {
            runExamples(examples, folder);
        } finally {
            for (String file : new String[] {NAME + ".java", NAME + ".class"}) {
                Files.deleteIfExists(folder.resolve(file));
            }
            Files.delete(folder);
        }
        checks.test("the examples show answers", () ->
                checks.same("enough answers are shown", true, shown >= LEAST_SHOWN));
        checks.end();
    }

    /** Called by the compiled examples. */
    public static void answers(String call, Object due, Call got) {
        shown++;
        checks.test(call, () -> checks.same(call, due, got.answer()));
    }

    /** Called by the compiled examples. */
    public static void refuses(String call, Class<? extends RuntimeException> due, Call got) {
        shown++;
        checks.test(call, () -> checks.throwsExactly(due, call, got::answer));
    }

    private static List<String> examplesOf(List<String> lines) {
        List<String> examples = new ArrayList<>();
        boolean inside = false;
        for (String line : lines) {
            if (line.startsWith("```")) {
                inside = line.equals("```java");
            } else if (inside) {
                examples.add(line);
            }
        }
        return examples;
    }

    private static void eachIsRead(List<String> examples) {
        for (String line : examples) {
            checks.same(line, line.contains("//"), SHOWN.matcher(line).matches());
        }
    }

    private static void runExamples(List<String> examples, Path folder) throws IOException {
        StringBuilder source = new StringBuilder("import java.util.NoSuchElementException;\n"
                + "public final class " + NAME + " implements Runnable {\npublic void run() {\n");
        for (String line : examples) {
            source.append(askedFor(line)).append('\n');
        }
        Path file = folder.resolve(NAME + ".java");
        Files.writeString(file, source.append("}\n}\n"));
        JavaCompiler compiler = ToolProvider.getSystemJavaCompiler();
        int code = compiler.run(null, null, null, "-encoding", "UTF-8", "-d", folder.toString(),
                "-cp", System.getProperty("java.class.path"), file.toString());
        checks.test("the examples compile", () -> checks.same("javac's exit code", 0, code));
        if (code == 0) {
            String end = endOfCompiled(folder);
            checks.test("the examples end", () -> checks.same("the end", "reached", end));
        }
    }

    private static String askedFor(String line) {
        Matcher matcher = SHOWN.matcher(line);
        if (!matcher.matches()) {
            return line;
        }
        String call = matcher.group(1);
        String head = "(\"" + call.replace("\\", "\\\\").replace("\"", "\\\"") + "\", ";
        return matcher.group(2).equals("answers")
                ? "ReadmeTest.answers" + head + matcher.group(3) + ", () -> " + call + ");"
                : "ReadmeTest.refuses" + head + matcher.group(3) + ".class, () -> " + call + ");";
    }

    private static String endOfCompiled(Path folder) {
        try (URLClassLoader loader = new URLClassLoader(new URL[] {folder.toUri().toURL()})) {
            Object examples = loader.loadClass(NAME).getDeclaredConstructor().newInstance();
            ((Runnable) examples).run();
            return "reached";
        } catch (IOException | ReflectiveOperationException | RuntimeException e) {
            return "threw " + e;
        }
    }
}
