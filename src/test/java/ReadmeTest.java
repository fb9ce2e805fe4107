import java.io.IOException;
import java.lang.reflect.Method;
import java.lang.reflect.Modifier;
import java.net.URL;
import java.net.URLClassLoader;
import java.nio.file.Files;
import java.nio.file.Path;
import java.util.List;
import java.util.Map;
import java.util.TreeMap;
import java.util.regex.Matcher;
import java.util.regex.Pattern;
import java.util.stream.Stream;
import javax.tools.ToolProvider;

/** README.md's example compiles, and each call in it answers what stands behind it. */
public final class ReadmeTest {
    private static final Pattern CALL = Pattern.compile("(int \\w+ = )?(net\\.\\w+\\([^;]*\\));\\s*// (-?\\d+)\\b.*");
    private static final Pattern EXAMPLE = Pattern.compile("```java\n(.*?)```", Pattern.DOTALL);

    private final Check check = new Check("ReadmeTest");
    private final String page;
    /** What the example says, by its lines. */
    private final Map<Integer, Integer> wanted = new TreeMap<>();

    private ReadmeTest(String page) {
        this.page = page;
    }

    public static void main(String[] args) throws IOException, ReflectiveOperationException {
        ReadmeTest test = new ReadmeTest(Files.readString(Path.of("README.md")));
        test.checkExample();
        test.checkNames();
        test.check.end();
    }

    private void checkExample() throws IOException, ReflectiveOperationException {
        Matcher example = EXAMPLE.matcher(page);
        check.due("there is an example", example.find() ? 1 : 0, 1);
        String[] lines = example.group(1).split("\n");
        Map<Integer, Integer> answers = answersOf(program(lines));
        check.due("answers of the example", answers.size(), wanted.size());
        wanted.forEach((line, want) -> check.due(lines[line], answers.getOrDefault(line, Integer.MIN_VALUE), want));
    }

    /** The example as a class that keeps what each call answers. */
    private String program(String[] lines) {
        StringBuilder program = new StringBuilder("public final class Example {\n")
            .append("public static void run(java.util.Map<Integer, Integer> answers) {\n");
        for (int line = 0; line < lines.length; line++) {
            Matcher call = CALL.matcher(lines[line]);
            if (call.matches()) {
                wanted.put(line, Integer.parseInt(call.group(3)));
                String name = call.group(1) == null ? "int answer" + line + " = " : call.group(1);
                program.append(name).append(call.group(2)).append(";\n");
                program.append("answers.put(").append(line).append(", ")
                    .append(name.replaceAll("int | = ", "")).append(");\n");
            } else {
                boolean isCall = lines[line].matches("net\\..*|int .*");
                check.due("a call without its answer: " + lines[line], isCall ? 1 : 0, 0);
                program.append(lines[line]).append("\n");
            }
        }
        return program.append("}\n}\n").toString();
    }

    private Map<Integer, Integer> answersOf(String program) throws IOException, ReflectiveOperationException {
        Path place = Files.createTempDirectory("readme");
        Path source = Files.writeString(place.resolve("Example.java"), program);
        Map<Integer, Integer> answers = new TreeMap<>();
        int errors = ToolProvider.getSystemJavaCompiler().run(null, null, null, "-cp",
            System.getProperty("java.class.path"), "-d", place.toString(), source.toString());
        check.due("the example compiles", errors, 0);
        if (errors == 0) {
            try (URLClassLoader loader = new URLClassLoader(new URL[] {place.toUri().toURL()})) {
                loader.loadClass("Example").getMethod("run", Map.class).invoke(null, answers);
            }
        }
        for (Path file : List.of(source, place.resolve("Example.class"), place)) {
            Files.deleteIfExists(file);
        }
        return answers;
    }

    private void checkNames() throws IOException {
        for (Method method : PrivateLinkRouting.class.getDeclaredMethods()) {
            if (Modifier.isPublic(method.getModifiers())) {
                checkName(method.getName());
            }
        }
        for (Class<?> inside : PrivateLinkRouting.class.getDeclaredClasses()) {
            checkName(inside.getSimpleName());
        }
        try (Stream<Path> files = Files.list(Path.of("src/test/java"))) {
            files.map(file -> file.getFileName().toString().replace(".java", ""))
                .filter(name -> name.endsWith("Test") || name.endsWith("Bounds")).forEach(this::checkName);
        }
    }

    private void checkName(String name) {
        check.due("README.md names " + name, page.contains("`" + name + "`") ? 1 : 0, 1);
    }
}
