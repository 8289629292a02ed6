import java.io.IOException;
import java.net.URI;
import java.net.URL;
import java.net.URLClassLoader;
import java.nio.file.Files;
import java.nio.file.Path;
import java.util.ArrayList;
import java.util.List;
import java.util.regex.Matcher;
import java.util.regex.Pattern;
import javax.tools.JavaCompiler;
import javax.tools.SimpleJavaFileObject;
import javax.tools.ToolProvider;

/** Runs README.md's example, and holds each answer against the number that stands beside it. */
public final class ReadmeTest {
    private static final Path README = Path.of("README.md");
    private static final Path OUT = Path.of("build/ci/readme");
    private static final Pattern EXAMPLE = Pattern.compile("(?s)```java\n(.*?)```");
    private static final Pattern ASKED = Pattern.compile("(halls\\.(\\w+)\\(.*\\));\\s+// (-?(0x[0-9a-f]+|\\d+)).*");
    private static final Pattern TEST_NAMED = Pattern.compile("(?m)^\\| `(\\w+)` \\|");

    public static void main(String[] args) throws Exception {
        String readme = Files.readString(README);
        List<String> calls = new ArrayList<>();
        String program = programOf(readme, calls);
        long[] answers = answersOf(program);
        Check.due("answers of the example", answers.length / 2, calls.size());
        for (int i = 0; i < answers.length / 2; i++) {
            Check.due("README: " + calls.get(i), answers[2 * i], answers[2 * i + 1]);
        }
        testsAreTold(readme);
        Check.end();
    }

    /** The example as a class whose function tells each answer and what is due, by turns. */
    private static String programOf(String readme, List<String> calls) {
        Matcher example = EXAMPLE.matcher(readme);
        Check.isTrue("there is an example", example.find());
        StringBuilder body = new StringBuilder();
        StringBuilder numbers = new StringBuilder();
        for (String line : example.group(1).split("\n")) {
            Matcher asked = ASKED.matcher(line);
            if (asked.matches()) {
                String name = "due" + calls.size();
                body.append("long ").append(name).append(" = ").append(asked.group(1)).append(";\n");
                numbers.append(name).append(", ").append(asked.group(3)).append("L, ");
                calls.add(asked.group(1));
            } else {
                Check.isTrue("a call tells its answer: " + line, !line.startsWith("halls."));
                body.append(line).append('\n');
            }
        }
        return "public final class Example {\npublic static long[] answers() {\n" + body
                + "return new long[] {" + numbers + "};\n}\n}\n";
    }

    private static long[] answersOf(String program) throws Exception {
        Files.createDirectories(OUT);
        JavaCompiler compiler = ToolProvider.getSystemJavaCompiler();
        var source = new SimpleJavaFileObject(URI.create("string:///Example.java"), SimpleJavaFileObject.Kind.SOURCE) {
            @Override
            public CharSequence getCharContent(boolean ignoreEncodingErrors) {
                return program;
            }
        };
        List<String> options = List.of("-d", OUT.toString(), "-cp", System.getProperty("java.class.path"));
        boolean compiled = compiler.getTask(null, null, null, options, null, List.of(source)).call();
        Check.isTrue("the example compiles", compiled);
        if (!compiled) {
            return new long[0];
        }
        try (URLClassLoader loader = new URLClassLoader(new URL[] {OUT.toUri().toURL()})) {
            return (long[]) loader.loadClass("Example").getMethod("answers").invoke(null);
        }
    }

    /** The table of tests names those that there are, and no others. */
    private static void testsAreTold(String readme) throws IOException {
        List<String> told = new ArrayList<>();
        Matcher named = TEST_NAMED.matcher(readme);
        while (named.find()) {
            told.add(named.group(1));
        }
        try (var files = Files.list(Path.of("src/test/java"))) {
            List<String> tests = files.map(file -> file.getFileName().toString())
                    .filter(name -> name.endsWith("Test.java"))
                    .map(name -> name.substring(0, name.length() - ".java".length())).sorted().toList();
            Check.isTrue("tests told " + told + ", there are " + tests, told.stream().sorted().toList().equals(tests));
        }
    }
}
