import java.io.IOException;
import java.net.URL;
import java.net.URLClassLoader;
import java.nio.file.Files;
import java.nio.file.Path;
import java.util.ArrayList;
import java.util.List;
import java.util.concurrent.Callable;
import java.util.function.BiConsumer;
import java.util.regex.Matcher;
import java.util.regex.Pattern;
import java.util.stream.Stream;
import javax.tools.ToolProvider;

/** README.md: each call of its example answers what stands behind the call, and each test of the project is named. */
public final class ReadmeTest {
    private static final Check CHECK = new Check("ReadmeTest");
    private static final Pattern BLOCK = Pattern.compile("```java\n(.*?)```", Pattern.DOTALL);
    private static final Pattern CALL = Pattern.compile("(gate\\..*);\\s*// ([^:]*)(: .*)?");

    public static void main(String[] args) throws Exception {
        String readme = Files.readString(Path.of("README.md"));
        Matcher block = BLOCK.matcher(readme);
        CHECK.due("there is an example", block.find(), true);
        String[] lines = block.group(1).split("\n");
        List<String> due = answersIn(lines);
        CHECK.due("the example has calls with answers", due.size() > 30, true);
        List<String> got = answersOf(lines);
        CHECK.due("how many calls were made", got.size(), due.size());
        for (int i = 0; i < due.size(); i++) {
            CHECK.due("call " + i + " of the example", i < got.size() ? got.get(i) : "nothing", due.get(i));
        }
        CHECK.due("there is one example", block.find(), false);
        testsNamed(readme);
        CHECK.end();
    }

    /** What README.md says: a call and its answer, as it would be printed. */
    private static List<String> answersIn(String[] lines) {
        List<String> all = new ArrayList<>();
        for (String line : lines) {
            Matcher call = CALL.matcher(line.strip());
            if (call.matches()) {
                all.add(call.group(1) + " -> " + call.group(2).replace("'", ""));
            }
        }
        return all;
    }

    /** What the class says to the same calls. */
    private static List<String> answersOf(String[] lines) throws Exception {
        Path directory = Files.createTempDirectory("readme");
        List<String> all = new ArrayList<>();
        BiConsumer<String, Callable<?>> ask = (call, answer) -> all.add(call + " -> " + outcomeOf(answer));
        try {
            Path file = directory.resolve("ReadmeExample.java");
            Files.writeString(file, sourceOf(lines));
            int failed = ToolProvider.getSystemJavaCompiler().run(null, null, null, "-d", directory.toString(),
                "-cp", System.getProperty("java.class.path"), file.toString());
            CHECK.due("the example compiles", failed, 0);
            try (URLClassLoader loader = new URLClassLoader(new URL[] {directory.toUri().toURL()})) {
                loader.loadClass("ReadmeExample").getMethod("ask", BiConsumer.class).invoke(null, ask);
            }
        } finally {
            remove(directory);
        }
        return all;
    }

    private static String outcomeOf(Callable<?> call) {
        try {
            return String.valueOf(call.call());
        } catch (Exception e) {
            return e.getClass().getSimpleName();
        }
    }

    /** The example as a class, in which each call with an answer is asked for it. */
    private static String sourceOf(String[] lines) {
        StringBuilder all = new StringBuilder("import java.util.concurrent.Callable;\n");
        all.append("import java.util.function.BiConsumer;\n");
        all.append("public final class ReadmeExample {\n");
        all.append("public static void ask(BiConsumer<String, Callable<?>> ask) {\n");
        for (String line : lines) {
            Matcher call = CALL.matcher(line.strip());
            if (call.matches()) {
                String text = call.group(1).replace("\\", "\\\\").replace("\"", "\\\"");
                all.append("ask.accept(\"").append(text).append("\", () -> ").append(call.group(1)).append(");\n");
            } else {
                all.append(line).append('\n');
            }
        }
        return all.append("}\n}\n").toString();
    }

    private static void remove(Path directory) throws IOException {
        List<Path> files;
        try (Stream<Path> found = Files.list(directory)) {
            files = found.toList();
        }
        for (Path file : files) {
            Files.delete(file);
        }
        Files.delete(directory);
    }

    private static void testsNamed(String readme) throws IOException {
        CHECK.due("README.md says how its tests are run", readme.contains("\n.ci/run\n"), true);
        try (Stream<Path> files = Files.list(Path.of("src/test/java"))) {
            for (Path file : files.toList()) {
                String name = file.getFileName().toString().replace(".java", "");
                CHECK.due("README.md names " + name, readme.contains("`" + name + "`"), true);
            }
        }
    }
}
