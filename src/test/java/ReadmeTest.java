import java.io.File;
import java.io.IOException;
import java.lang.reflect.Method;
import java.lang.reflect.Modifier;
import java.net.URL;
import java.net.URLClassLoader;
import java.nio.file.Files;
import java.nio.file.Path;
import java.util.ArrayList;
import java.util.List;
import java.util.Set;
import java.util.TreeSet;
import java.util.regex.Matcher;
import java.util.regex.Pattern;
import javax.tools.ToolProvider;

/** README.md's example is compiled and run, and the answers that its comments tell are looked at. */
public final class ReadmeTest {
    private static final Path README = Path.of("README.md");
    private static final Pattern EXAMPLE = Pattern.compile("(?s)```java\\n(.*?)```");
    private static final Pattern ANSWER = Pattern.compile("(?m)^int (\\w+) = .*; +// (\\d+): .*$");
    private static final Pattern ROW = Pattern.compile("(?m)^\\| `(?:new )?(\\w+)\\((.*?)\\)` \\|");

    public static void main(String[] args) throws Exception {
        String readme = Files.readString(README);
        example(readme);
        table(readme);
        Check.end();
    }

    private static void example(String readme) throws Exception {
        Matcher block = EXAMPLE.matcher(readme);
        Check.due("there is an example", block.find(), true);
        String code = block.group(1);
        List<String> names = new ArrayList<>();
        List<Integer> told = new ArrayList<>();
        Matcher answer = ANSWER.matcher(code);
        while (answer.find()) {
            names.add(answer.group(1));
            told.add(Integer.valueOf(answer.group(2)));
        }
        Check.due("each answer is told", (long) told.size(), Pattern.compile("(?m)^int ").matcher(code).results().count());
        Check.due("the answers of " + names, answers(code, names), told);
    }

    private static List<Integer> answers(String code, List<String> names) throws Exception {
        Path made = Files.createTempDirectory("readme");
        try {
            Path file = made.resolve("Example.java");
            Files.writeString(file, "public class Example {\npublic static java.util.List<Integer> run() {\n" + code
                    + "return java.util.List.of(" + String.join(", ", names) + ");\n}\n}\n");
            int failed = ToolProvider.getSystemJavaCompiler().run(null, null, null, "-cp",
                    System.getProperty("java.class.path"), "-d", made.toString(), file.toString());
            Check.due("the example compiles", failed, 0);
            return failed == 0 ? run(made) : List.of();
        } finally {
            for (File file : made.toFile().listFiles()) {
                file.delete();
            }
            Files.delete(made);
        }
    }

    @SuppressWarnings("unchecked")
    private static List<Integer> run(Path made) throws IOException, ReflectiveOperationException {
        try (URLClassLoader loader = new URLClassLoader(new URL[] {made.toUri().toURL()})) {
            return (List<Integer>) loader.loadClass("Example").getMethod("run").invoke(null);
        }
    }

    private static void table(String readme) {
        Set<String> calls = new TreeSet<>();
        Matcher row = ROW.matcher(readme);
        while (row.find()) {
            int parameters = row.group(2).isEmpty() ? 0 : row.group(2).split(",").length;
            calls.add(row.group(1) + " of " + parameters);
        }
        Set<String> face = new TreeSet<>();
        face.add("BlendRows of " + BlendRows.class.getConstructors()[0].getParameterCount());
        for (Method method : BlendRows.class.getDeclaredMethods()) {
            if (Modifier.isPublic(method.getModifiers())) {
                face.add(method.getName() + " of " + method.getParameterCount());
            }
        }
        Check.due("the table's calls", calls, face);
    }
}
