import java.io.ByteArrayOutputStream;
import java.io.PrintStream;
import java.lang.reflect.Method;
import java.lang.reflect.Modifier;
import java.net.URL;
import java.net.URLClassLoader;
import java.nio.charset.StandardCharsets;
import java.nio.file.Files;
import java.nio.file.Path;
import java.util.ArrayList;
import java.util.List;
import java.util.regex.Matcher;
import java.util.regex.Pattern;
import java.util.stream.Stream;
import javax.tools.ToolProvider;

/** The example of README.md compiles as it stands there, and prints the answers that stand behind its lines. */
public final class ReadmeTest {
    private static final Pattern EXAMPLE = Pattern.compile("```java\\n(public final class Example .*?)```", Pattern.DOTALL);
    private static final Pattern ANSWER = Pattern.compile("System\\.out\\.println\\(.*\\);\\s*// (\\S+): ");

    public static void main(String[] args) throws Exception {
        String readme = Files.readString(Path.of("README.md"));
        Matcher example = EXAMPLE.matcher(readme);
        boolean isThere = example.find();
        Check.due("README.md has an example", isThere, true);
        if (isThere) {
            runExample(example.group(1));
        }
        for (Method method : CoinScripts.class.getDeclaredMethods()) {
            boolean isOfFace = Modifier.isPublic(method.getModifiers());
            boolean isNamed = readme.contains("`" + method.getName() + "(");
            Check.due("README.md tells of " + method.getName(), isNamed || !isOfFace, true);
        }
        Check.end();
    }

    private static void runExample(String code) throws Exception {
        Path place = Files.createTempDirectory("readme");
        try {
            Path file = Files.writeString(place.resolve("Example.java"), code);
            int compiled = ToolProvider.getSystemJavaCompiler().run(null, null, null, "-Xlint:all", "-Werror",
                    "-cp", System.getProperty("java.class.path"), "-d", place.toString(), file.toString());
            Check.due("compiling the example of README.md", compiled, 0);
            if (compiled == 0) {
                compare(dueAnswers(code), printedBy(place));
            }
        } finally {
            removeAll(place);
        }
    }

    private static void compare(List<String> due, List<String> printed) {
        Check.due("lines that the example of README.md prints", printed.size(), due.size());
        for (int k = 0; k < Math.min(due.size(), printed.size()); k++) {
            boolean isSo = printed.get(k).equals(due.get(k));
            Check.due("line " + k + " of the example prints " + printed.get(k) + ", README.md says " + due.get(k), isSo, true);
        }
    }

    /** Every line that prints has to tell its answer. */
    private static List<String> dueAnswers(String code) {
        List<String> answers = new ArrayList<>();
        for (String line : code.split("\n")) {
            Matcher answer = ANSWER.matcher(line);
            boolean tells = answer.find();
            Check.due("the answer is told: " + line.strip(), tells, line.contains("println"));
            if (tells) {
                answers.add(answer.group(1));
            }
        }
        return answers;
    }

    private static List<String> printedBy(Path place) throws Exception {
        PrintStream usual = System.out;
        ByteArrayOutputStream printed = new ByteArrayOutputStream();
        try (URLClassLoader loader = new URLClassLoader(new URL[] {place.toUri().toURL()})) {
            System.setOut(new PrintStream(printed, true, StandardCharsets.UTF_8));
            loader.loadClass("Example").getMethod("main", String[].class).invoke(null, (Object) new String[0]);
        } finally {
            System.setOut(usual);
        }
        return printed.toString(StandardCharsets.UTF_8).lines().toList();
    }

    private static void removeAll(Path place) throws Exception {
        try (Stream<Path> files = Files.list(place)) {
            for (Path file : files.toList()) {
                Files.delete(file);
            }
        }
        Files.delete(place);
    }
}
