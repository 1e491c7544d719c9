import java.io.IOException;
import java.io.StringWriter;
import java.lang.reflect.InvocationTargetException;
import java.lang.reflect.Method;
import java.lang.reflect.Modifier;
import java.net.URI;
import java.net.URL;
import java.net.URLClassLoader;
import java.nio.file.Files;
import java.nio.file.Path;
import java.util.ArrayList;
import java.util.List;
import java.util.regex.Matcher;
import java.util.regex.Pattern;
import java.util.stream.Stream;
import javax.tools.JavaCompiler;
import javax.tools.JavaFileObject;
import javax.tools.SimpleJavaFileObject;
import javax.tools.ToolProvider;

/**
 * README.md keeps its word: its examples, run one behind the other on one object, give the answers
 * that stand beside the calls, and it names every call, every refusal and every test.
 */
final class ReadmeTest {
    private static final Path README = Path.of("README.md");
    private static final Path TESTS = Path.of("src/test/java");
    private static final Pattern EXAMPLE = Pattern.compile("(?ms)^```java\n(.*?)^```$");
    private static final Pattern ANSWERED = Pattern.compile("(ways\\.\\w+\\(.*\\));\\s*// (-?\\d+|[A-Z]+)\\b.*");
    private static final String EXAMPLES_CLASS = "ReadmeExamples";

    public static void main(String[] args) throws IOException, ReflectiveOperationException {
        String readme = Files.readString(README);
        examples(readme);
        namesEachCall(readme);
        namesEachTest(readme);
        Check.end();
    }

    private static void examples(String readme) throws IOException, ReflectiveOperationException {
        List<String> lines = new ArrayList<>();
        List<String> asked = new ArrayList<>();
        List<String> due = new ArrayList<>();
        Matcher example = EXAMPLE.matcher(readme);
        while (example.find()) {
            for (String line : example.group(1).split("\n")) {
                Matcher answered = ANSWERED.matcher(line);
                if (answered.matches()) {
                    asked.add(answered.group(1));
                    due.add(answered.group(2));
                    lines.add("answers.add((long) " + answered.group(1) + ");");
                } else {
                    Check.due("README.md tells an answer: " + line, !line.contains("//"));
                    lines.add(line);
                }
            }
        }
        Check.due("README.md has examples", asked.size() > 30);
        List<Long> answers = answers(lines);
        Check.due("README.md: answers", answers.size(), asked.size());
        for (int i = 0; i < answers.size(); i++) {
            Check.due("README.md: " + asked.get(i), answers.get(i), number(due.get(i)));
        }
    }

    private static int number(String due) throws ReflectiveOperationException {
        boolean isName = Character.isLetter(due.charAt(0));
        return isName ? StickWays.class.getField(due).getInt(null) : Integer.parseInt(due);
    }

    private static List<Long> answers(List<String> lines) throws IOException, ReflectiveOperationException {
        String source = "public final class " + EXAMPLES_CLASS + " {\n"
            + "public static void run(java.util.List<Long> answers) {\n" + String.join("\n", lines) + "\n}\n}\n";
        List<Long> answers = new ArrayList<>();
        Path out = Files.createTempDirectory("readme");
        try {
            compile(source, out);
            try (URLClassLoader loader = new URLClassLoader(new URL[] {out.toUri().toURL()})) {
                loader.loadClass(EXAMPLES_CLASS).getMethod("run", List.class).invoke(null, answers);
            } catch (InvocationTargetException e) {
                Check.due("README.md: the examples throw " + e.getCause(), false);
            }
        } finally {
            Files.deleteIfExists(out.resolve(EXAMPLES_CLASS + ".class"));
            Files.deleteIfExists(out);
        }
        return answers;
    }

    private static void compile(String source, Path out) {
        JavaFileObject file = new SimpleJavaFileObject(URI.create("string:///" + EXAMPLES_CLASS + ".java"),
            JavaFileObject.Kind.SOURCE) {
            @Override
            public CharSequence getCharContent(boolean ignoreErrors) {
                return source;
            }
        };
        JavaCompiler compiler = ToolProvider.getSystemJavaCompiler();
        StringWriter told = new StringWriter();
        List<String> options = List.of("-proc:none", "-d", out.toString(), "-cp", System.getProperty("java.class.path"));
        boolean compiles = compiler.getTask(told, null, null, options, null, List.of(file)).call();
        Check.due("README.md: the examples compile " + told, compiles);
    }

    private static void namesEachCall(String readme) {
        for (Method method : StickWays.class.getDeclaredMethods()) {
            if (Modifier.isPublic(method.getModifiers())) {
                boolean named = readme.contains("`" + method.getName() + "`");
                Check.due("README.md names `" + method.getName() + "`", named);
            }
        }
        String[] answers = {"`UNKNOWN` | -101 |", "`OUTSIDE` | -102 |", "`STATE` | -103 |", "`FULL` | -104 |", "`NONE` (-1)"};
        for (String answer : answers) {
            Check.due("README.md tells what is answered: " + answer, readme.contains(answer));
        }
    }

    private static void namesEachTest(String readme) throws IOException {
        List<String> files;
        try (Stream<Path> listed = Files.list(TESTS)) {
            files = listed.map(file -> file.getFileName().toString()).sorted().toList();
        }
        for (String file : files) {
            String name = file.replace(".java", "");
            boolean isTest = name.endsWith("Test");
            Check.due("README.md names the test " + name, !isTest || readme.contains("| `" + name + "` |"));
        }
        Matcher row = Pattern.compile("\\| `(\\w+Test)` \\|").matcher(readme);
        while (row.find()) {
            Check.due("the test " + row.group(1) + " stands", files.contains(row.group(1) + ".java"));
        }
        Check.due("README.md tells how the tests are run", readme.contains("    bash .ci/run\n"));
    }
}
