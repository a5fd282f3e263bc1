import java.io.File;
import java.io.IOException;
import java.lang.reflect.Method;
import java.lang.reflect.Modifier;
import java.net.URL;
import java.net.URLClassLoader;
import java.nio.file.Files;
import java.nio.file.Path;
import java.util.ArrayList;
import java.util.Comparator;
import java.util.List;
import java.util.Set;
import java.util.TreeSet;
import java.util.regex.Matcher;
import java.util.regex.Pattern;
import java.util.stream.Stream;
import javax.tools.ToolProvider;

/**
 * README.md's Java is compiled as it stands there, all of it as one program, and run: each call that begins a line
 * answers what stands beside it. Its way to run the tests is there, and its list of tests is whole.
 */
public final class ReadmeTest {
    private static final Pattern BLOCK = Pattern.compile("(?s)```java\n(.*?)```");
    private static final Pattern CALL = Pattern.compile(
            "(turns\\.\\w+\\(.*\\));\\s*// (-?\\d+|true|false|throws \\w+)(?:[ :;,].*)?");
    private static final int MOST_CALLS = 512;

    private final Check check = new Check();
    private final String readme;
    private final List<String> calls = new ArrayList<>();
    private final List<String> due = new ArrayList<>();

    private ReadmeTest(String readme) {
        this.readme = readme;
    }

    public static void main(String[] args) throws Exception {
        ReadmeTest test = new ReadmeTest(Files.readString(Path.of("README.md")));
        test.answers();
        test.everyMethodIsShown();
        test.everyTestIsListed();
        test.wayToRun();
        test.check.end();
    }

    private String code() {
        StringBuilder all = new StringBuilder();
        Matcher blocks = BLOCK.matcher(readme);
        while (blocks.find()) {
            all.append(blocks.group(1));
        }
        return all.toString();
    }

    /** README's lines, but that a call with its answer beside it is asked for that answer. */
    private String program() {
        StringBuilder lines = new StringBuilder("public final class ReadmeCalls {\n"
                + "public static void run(java.util.List<String> got) throws Exception {\n");
        for (String line : code().split("\n")) {
            Matcher call = CALL.matcher(line);
            if (call.matches()) {
                calls.add(call.group(1));
                due.add(call.group(2));
                lines.append("try { got.add(String.valueOf(").append(call.group(1)).append(")); }")
                        .append(" catch (RuntimeException e) { got.add(\"throws \" + e.getClass().getSimpleName()); }\n");
            } else {
                check.due("no answer stands beside " + line, line.startsWith("turns."), false);
                lines.append(line).append('\n');
            }
        }
        return lines.append("}\n}\n").toString();
    }

    private void answers() throws Exception {
        Path folder = Files.createTempDirectory("readme");
        try {
            Path source = Files.writeString(folder.resolve("ReadmeCalls.java"), program());
            int exit = ToolProvider.getSystemJavaCompiler().run(null, null, null, "-nowarn", "-d", folder.toString(),
                    "-cp", System.getProperty("java.class.path"), source.toString());
            check.due("README's Java compiles (exit code)", exit, 0);
            if (exit == 0) {
                compare(answersOf(folder));
            }
        } finally {
            delete(folder);
        }
    }

    private static List<String> answersOf(Path folder) throws Exception {
        List<String> got = new ArrayList<>();
        try (URLClassLoader loader = new URLClassLoader(new URL[] {folder.toUri().toURL()})) {
            loader.loadClass("ReadmeCalls").getMethod("run", List.class).invoke(null, got);
        }
        return got;
    }

    private void compare(List<String> got) {
        check.due("as many answers as calls", got.size(), calls.size());
        check.due("README shows calls", !calls.isEmpty(), true);
        check.due("fewer calls than an object is used for", calls.size() < MOST_CALLS, true);
        for (int i = 0; i < Math.min(got.size(), calls.size()); i++) {
            check.due("README's " + calls.get(i), got.get(i), due.get(i));
        }
    }

    private static void delete(Path folder) throws IOException {
        try (Stream<Path> files = Files.walk(folder)) {
            files.sorted(Comparator.reverseOrder()).map(Path::toFile).forEach(File::delete);
        }
    }

    private void everyMethodIsShown() {
        for (Method method : RightTurns.class.getDeclaredMethods()) {
            if (Modifier.isPublic(method.getModifiers())) {
                check.due("README shows " + method.getName(), code().contains("turns." + method.getName() + "("), true);
            }
        }
    }

    private void everyTestIsListed() throws IOException {
        Set<String> listed = new TreeSet<>();
        Matcher rows = Pattern.compile("(?m)^\\| `src/test/java/(\\w+Test\\.java)` \\|").matcher(readme);
        while (rows.find()) {
            listed.add(rows.group(1));
        }
        Set<String> there = new TreeSet<>();
        try (Stream<Path> files = Files.list(Path.of("src/test/java"))) {
            files.map(f -> f.getFileName().toString()).filter(f -> f.endsWith("Test.java")).forEach(there::add);
        }
        check.due("README's list of tests", listed, there);
    }

    private void wayToRun() {
        check.due("README says how to run the tests", Pattern.compile("(?m)^ {4}bash \\.ci/run$").matcher(readme).find(),
                true);
        check.due(".ci/run can be executed", Files.isExecutable(Path.of(".ci/run")), true);
    }
}
