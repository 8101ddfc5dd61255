import java.io.IOException;
import java.io.StringWriter;
import java.net.URI;
import java.net.URL;
import java.net.URLClassLoader;
import java.nio.file.Files;
import java.nio.file.Path;
import java.util.ArrayList;
import java.util.Comparator;
import java.util.List;
import java.util.regex.Matcher;
import java.util.regex.Pattern;
import java.util.stream.Stream;
import javax.tools.JavaCompiler;
import javax.tools.JavaFileObject;
import javax.tools.SimpleJavaFileObject;
import javax.tools.ToolProvider;

/** What README.md shows is true: its Java lines, put together, answer what stands behind them. */
public final class ReadmeTest {
    private static final Path README = Path.of("README.md");
    private static final Path TESTS = Path.of("src/test/java");
    private static final String NAME = "ReadmeProgram";
    /** A call, with the variable that takes its answer if there is one, and the answer behind the two strokes. */
    private static final Pattern ANSWERED = Pattern.compile("\\s*(?:int (\\w+) = )?(\\S.*);\\s+// (.+)");
    /** The writing of a track holds blanks; of all other answers the first word tells. */
    private static final Pattern ANSWER = Pattern.compile("\\d/\\d\\[.*|[^\\s,:]+");

    public static void main(String[] arguments) throws ReflectiveOperationException, IOException {
        List<String> calls = new ArrayList<>();
        List<String> due = new ArrayList<>();
        String program = programOf(Files.readAllLines(README), calls, due);
        List<String> got = answersOf(program);
        Check.same("the number of answers", due.size(), got.size());
        for (int i = 0; i < due.size() && i < got.size(); i++) {
            Check.same("README.md, " + calls.get(i), due.get(i), got.get(i));
        }
        Check.same("README.md shows calls", true, due.size() > 30);
        namesEveryTest();
        Check.finish("ReadmeTest");
    }

    private static String programOf(List<String> lines, List<String> calls, List<String> due) {
        StringBuilder program = new StringBuilder();
        program.append("public final class ").append(NAME).append(" {\n");
        program.append("public static void fill(java.util.List<String> answers) {\n");
        boolean isJava = false;
        for (String line : lines) {
            Matcher answered = ANSWERED.matcher(line);
            if (line.startsWith("```")) {
                isJava = line.equals("```java");
            } else if (isJava && answered.matches()) {
                calls.add(answered.group(2));
                due.add(answerIn(answered.group(3)));
                program.append(asked(answered.group(1), answered.group(2)));
            } else if (isJava) {
                program.append(line).append('\n');
            }
        }
        return program.append("}\n}\n").toString();
    }

    private static String answerIn(String comment) {
        Matcher answer = ANSWER.matcher(comment);
        return answer.lookingAt() ? answer.group() : comment;
    }

    private static String asked(String variable, String call) {
        if (variable != null) {
            return "int " + variable + " = " + call + ";\nanswers.add(String.valueOf(" + variable + "));\n";
        }
        return "try {\nanswers.add(String.valueOf(" + call + "));\n} catch (RuntimeException thrown) {\n"
                + "answers.add(thrown.getClass().getSimpleName());\n}\n";
    }

    private static List<String> answersOf(String program) throws ReflectiveOperationException, IOException {
        List<String> answers = new ArrayList<>();
        Path folder = Files.createTempDirectory("readme");
        try {
            StringWriter messages = new StringWriter();
            JavaCompiler compiler = ToolProvider.getSystemJavaCompiler();
            boolean isCompiled = compiler.getTask(messages, null, null, List.of("-d", folder.toString(), "-cp",
                    System.getProperty("java.class.path")), null, List.of(sourceOf(program))).call();
            Check.same("README.md compiles: " + messages, true, isCompiled);
            if (isCompiled) {
                try (URLClassLoader loader = new URLClassLoader(new URL[] {folder.toUri().toURL()})) {
                    loader.loadClass(NAME).getMethod("fill", List.class).invoke(null, answers);
                }
            }
        } finally {
            delete(folder);
        }
        return answers;
    }

    private static JavaFileObject sourceOf(String program) {
        return new SimpleJavaFileObject(URI.create("string:///" + NAME + ".java"), JavaFileObject.Kind.SOURCE) {
            @Override
            public CharSequence getCharContent(boolean ignoreEncodingErrors) {
                return program;
            }
        };
    }

    private static void delete(Path folder) throws IOException {
        try (Stream<Path> found = Files.walk(folder)) {
            for (Path path : found.sorted(Comparator.reverseOrder()).toList()) {
                Files.delete(path);
            }
        }
    }

    private static void namesEveryTest() throws IOException {
        String readme = Files.readString(README);
        try (Stream<Path> found = Files.list(TESTS)) {
            for (Path path : found.sorted().toList()) {
                String name = path.getFileName().toString().replace(".java", "");
                if (name.endsWith("Test")) {
                    Check.same("README.md names " + name, true, readme.contains("`" + name + "`"));
                }
            }
        }
        Matcher named = Pattern.compile("`(\\w+(?:Test|Yard))`").matcher(readme);
        while (named.find()) {
            Check.same("there is a " + named.group(1), true, Files.exists(TESTS.resolve(named.group(1) + ".java")));
        }
    }
}
