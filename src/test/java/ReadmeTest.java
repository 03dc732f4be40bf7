import java.io.File;
import java.io.IOException;
import java.net.URL;
import java.net.URLClassLoader;
import java.nio.file.Files;
import java.nio.file.Path;
import java.util.ArrayList;
import java.util.List;
import java.util.Set;
import java.util.TreeSet;
import java.util.regex.Matcher;
import java.util.regex.Pattern;
import java.util.stream.Stream;
import javax.tools.ToolProvider;

/** What README.md says is so: its examples compile and answer as they say, and it names the tests that .ci/run runs. */
public final class ReadmeTest {
    private static final Path TESTS = Path.of("src/test/java");
    private static final Pattern BLOCK = Pattern.compile("(?s)```(\\w+)\n(.*?)```");
    private static final Pattern CALL = Pattern.compile("(.*\\)); // (-?\\d+|true|false)(: .*)?");
    private static final Pattern NAMED = Pattern.compile("`(src/\\S+\\.java)`");

    private ReadmeTest() {
    }

    public static void main(String[] args) throws IOException, ReflectiveOperationException {
        String readme = Files.readString(Path.of("README.md"));
        examples(readme);
        testsThatAreNamed(readme);
        howTheyAreRun(readme);
        Due.finish("ReadmeTest");
    }

    /** All blocks of Java are one program: functions, and calls with what they answer. */
    private static void examples(String readme) throws IOException, ReflectiveOperationException {
        List<String> calls = new ArrayList<>();
        List<Integer> due = new ArrayList<>();
        StringBuilder functions = new StringBuilder();
        StringBuilder body = new StringBuilder();
        for (String block : blocks(readme, "java")) {
            if (block.startsWith("static ")) {
                functions.append(block);
            } else {
                block.lines().forEach(line -> addLine(line, body, calls, due));
            }
        }
        Due.is("calls in README.md", calls.size() > 30, true);
        int[] got = answers(functions.toString(), body.toString(), calls.size());
        for (int i = 0; i < calls.size(); i++) {
            Due.is("README.md: " + calls.get(i), got[i], due.get(i));
        }
    }

    private static List<String> blocks(String readme, String language) {
        List<String> blocks = new ArrayList<>();
        Matcher matcher = BLOCK.matcher(readme);
        while (matcher.find()) {
            if (matcher.group(1).equals(language)) {
                blocks.add(matcher.group(2));
            }
        }
        return blocks;
    }

    private static void addLine(String line, StringBuilder body, List<String> calls, List<Integer> due) {
        Matcher matcher = CALL.matcher(line);
        if (!matcher.matches()) {
            Due.is("a line without an answer makes an object: " + line, line.contains(" = new "), true);
            body.append(line).append('\n');
            return;
        }
        boolean truth = matcher.group(2).matches("true|false");
        String value = truth ? matcher.group(1) + " ? 1 : 0" : matcher.group(1);
        body.append("got[").append(calls.size()).append("] = ").append(value).append(";\n");
        calls.add(matcher.group(1));
        due.add(truth ? matcher.group(2).equals("true") ? 1 : 0 : Integer.parseInt(matcher.group(2)));
    }

    private static int[] answers(String functions, String body, int calls) throws IOException, ReflectiveOperationException {
        Path directory = Files.createTempDirectory("readme");
        Path source = directory.resolve("Example.java");
        Files.writeString(source, "public final class Example {\n" + functions + "public static int[] answers() {\nint[] got = new int[" + calls
                + "];\n" + body + "return got;\n}\n}\n");
        String path = System.getProperty("java.class.path");
        int outcome = ToolProvider.getSystemJavaCompiler().run(null, null, null, "-cp", path, "-d", directory.toString(), source.toString());
        Due.is("the examples compile", outcome, 0);
        int[] got = new int[calls];
        if (outcome == 0) {
            try (URLClassLoader loader = new URLClassLoader(new URL[] {directory.toUri().toURL()}, ReadmeTest.class.getClassLoader())) {
                got = (int[]) loader.loadClass("Example").getMethod("answers").invoke(null);
            }
        }
        for (File file : directory.toFile().listFiles()) {
            Files.delete(file.toPath());
        }
        Files.delete(directory);
        return got;
    }

    /** Each file of the tests is named, and none else; those that can be run bear the name by which .ci/run finds them. */
    private static void testsThatAreNamed(String readme) throws IOException {
        Set<String> named = new TreeSet<>();
        Matcher matcher = NAMED.matcher(readme);
        while (matcher.find()) {
            named.add(matcher.group(1));
        }
        Set<String> there = new TreeSet<>(Set.of("src/main/java/VersionSearch.java"));
        try (Stream<Path> files = Files.list(TESTS)) {
            for (Path file : files.toList()) {
                String name = TESTS + "/" + file.getFileName();
                there.add(name);
                boolean runs = Files.readString(file).contains("public static void main(");
                Due.is(name + " is run by .ci/run", name.endsWith("Test.java"), runs);
            }
        }
        for (String name : there) {
            Due.is("README.md names " + name, named.contains(name), true);
        }
        for (String name : named) {
            Due.is("there is " + name, there.contains(name), true);
        }
    }

    private static void howTheyAreRun(String readme) throws IOException {
        Path run = Path.of(".ci/run");
        String script = Files.readString(run);
        Due.is("README.md names .ci/run", readme.contains("`.ci/run`"), true);
        Due.is(".ci/run can be run", Files.isExecutable(run), true);
        Due.is(".ci/run runs all tests of the project", script.contains("for file in src/test/java/*Test.java; do"), true);
        Due.is(".ci/run runs all tests under ../shared/tests", script.contains("for file in ../shared/tests/*.java; do"), true);
        for (String block : blocks(readme, "sh")) {
            Matcher matcher = Pattern.compile("java -cp out (\\w+)").matcher(block);
            Due.is("a test by itself", matcher.find() && Files.exists(TESTS.resolve(matcher.group(1) + ".java")), true);
        }
    }
}
