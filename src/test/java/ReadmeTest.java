import java.io.File;
import java.io.IOException;
import java.lang.reflect.InvocationTargetException;
import java.net.URL;
import java.net.URLClassLoader;
import java.nio.file.Files;
import java.nio.file.Path;
import java.util.ArrayList;
import java.util.Comparator;
import java.util.List;
import java.util.Set;
import java.util.TreeSet;
import java.util.regex.Matcher;
import java.util.regex.Pattern;
import java.util.stream.Stream;
import javax.tools.ToolProvider;

/** What README.md says: its program answers as told there, and its tests are those there are. */
public final class ReadmeTest {
    private static final Check CHECK = new Check();
    private static final Pattern PROGRAM = Pattern.compile("(?s)```java\n(.*?)```");
    private static final Pattern CALL = Pattern.compile("(x\\..*\\)); +// (-?\\d+).*");
    private static final Pattern NAMED = Pattern.compile("(?m)^- `(\\w+)`:");

    public static void main(String[] args) throws Exception {
        Path root = Path.of(System.getProperty("root"));
        String text = Files.readString(root.resolve("README.md"));
        Matcher program = PROGRAM.matcher(text);
        CHECK.about("the README's program");
        boolean isThere = program.find();
        CHECK.that("is there", isThere);
        if (isThere) {
            run(program.group(1));
        }
        CHECK.about("the README's tests");
        CHECK.that("are those there are", named(text).equals(present(root)));
        CHECK.close();
    }

    private static void run(String program) throws Exception {
        Path work = Files.createTempDirectory("readme");
        try {
            Path file = work.resolve("Example.java");
            Files.writeString(file, asClass(program));
            int outcome = ToolProvider.getSystemJavaCompiler().run(null, null, null,
                    "-cp", System.getProperty("java.class.path"), "-d", work.toString(),
                    file.toString());
            CHECK.due("javac", outcome, 0);
            if (outcome == 0) {
                compare(calls(program), answers(work));
            }
        } finally {
            remove(work);
        }
    }

    /** The program as it stands, but that what each call answers is kept. */
    private static String asClass(String program) {
        StringBuilder text = new StringBuilder("public final class Example {\n"
                + "public static void answers(java.util.List<Long> all) {\n");
        for (String line : program.split("\n")) {
            Matcher call = CALL.matcher(line);
            text.append(call.matches() ? "all.add((long) " + call.group(1) + ");" : line)
                    .append("\n");
        }
        return text.append("}}\n").toString();
    }

    private static List<Matcher> calls(String program) {
        return program.lines().map(CALL::matcher).filter(Matcher::matches).toList();
    }

    private static List<Long> answers(Path work) throws IOException, ReflectiveOperationException {
        List<Long> all = new ArrayList<>();
        try (URLClassLoader loader = new URLClassLoader(new URL[] {work.toUri().toURL()})) {
            loader.loadClass("Example").getMethod("answers", List.class).invoke(null, all);
        } catch (InvocationTargetException e) {
            CHECK.that("it threw " + e.getCause(), false);
        }
        return all;
    }

    private static void compare(List<Matcher> calls, List<Long> answers) {
        CHECK.due("calls with an answer", answers.size(), calls.size());
        CHECK.that("some", !calls.isEmpty());
        for (int i = 0; i < calls.size() && i < answers.size(); i++) {
            Matcher call = calls.get(i);
            CHECK.due(call.group(1), answers.get(i), Long.parseLong(call.group(2)));
        }
    }

    private static void remove(Path work) throws IOException {
        try (Stream<Path> inside = Files.walk(work)) {
            inside.sorted(Comparator.reverseOrder()).map(Path::toFile).forEach(File::delete);
        }
    }

    private static Set<String> named(String text) {
        Set<String> names = new TreeSet<>();
        Matcher name = NAMED.matcher(text);
        while (name.find()) {
            names.add(name.group(1));
        }
        return names;
    }

    private static Set<String> present(Path root) throws IOException {
        Set<String> names = new TreeSet<>();
        try (Stream<Path> files = Files.list(root.resolve("src/test/java"))) {
            files.map(file -> file.getFileName().toString())
                    .filter(name -> name.endsWith("Test.java"))
                    .forEach(name -> names.add(name.substring(0, name.length() - 5)));
        }
        return names;
    }
}
