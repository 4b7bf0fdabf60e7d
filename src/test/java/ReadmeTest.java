import java.io.IOException;
import java.lang.reflect.Method;
import java.lang.reflect.Modifier;
import java.net.URL;
import java.net.URLClassLoader;
import java.nio.file.Files;
import java.nio.file.Path;
import java.util.ArrayList;
import java.util.Arrays;
import java.util.List;
import java.util.function.Supplier;
import java.util.regex.Matcher;
import java.util.regex.Pattern;
import java.util.stream.Collectors;
import java.util.stream.Stream;
import javax.tools.ToolProvider;

/** The calls that README.md shows answer what stands behind them, and it names every call and every test. */
final class ReadmeTest {
    private static final Path README = Path.of("README.md");
    // A call, and behind it an answer: a text in quotes, an exception, or a value, perhaps with words.
    private static final Pattern CALL = Pattern.compile("(\\S.*);\\s+// (\"[^\"]*\"|throws \\w+|[^ :]+)(: .*)?");

    private final List<String> calls = new ArrayList<>();
    private final List<String> answers = new ArrayList<>();
    private final List<String> where = new ArrayList<>();
    private final List<String> methods = new ArrayList<>();
    private final List<String> unknown = new ArrayList<>();

    public static void main(String[] args) throws Exception {
        List<String> lines = Files.readAllLines(README);
        new ReadmeTest().run(lines);
        String page = String.join("\n", lines);
        namesAllCalls(page);
        namesAllTests(page);
        Checks.finish();
    }

    private void run(List<String> lines) throws Exception {
        sort(lines);
        Checks.due("lines that show no answer", "[]", () -> unknown);
        Checks.due("it shows some fifty calls", true, () -> calls.size() > 50);
        Path made = Files.createTempDirectory("readme");
        Path source = made.resolve("ReadmeCalls.java");
        Files.writeString(source, program());
        int refused = ToolProvider.getSystemJavaCompiler().run(null, null, null,
            "-cp", System.getProperty("java.class.path"), "-d", made.toString(), source.toString());
        Checks.due("the calls compile", 0, () -> refused);
        if (refused == 0) {
            dueAsShown(made);
        }
        for (String name : List.of("ReadmeCalls.java", "ReadmeCalls.class")) {
            Files.deleteIfExists(made.resolve(name));
        }
        Files.deleteIfExists(made);
    }

    /** Tells the lines of the blocks apart: those of methods, the new object, and calls with answers. */
    private void sort(List<String> lines) {
        boolean inside = false;
        boolean method = false;
        for (int i = 0; i < lines.size(); i++) {
            String line = lines.get(i);
            if (line.startsWith("```")) {
                inside = line.equals("```java");
            } else if (inside && (method || line.startsWith("static "))) {
                method = !line.equals("}");
                methods.add(line);
            } else if (inside) {
                addCall(line, i + 1);
            }
        }
    }

    private void addCall(String line, int number) {
        Matcher call = CALL.matcher(line);
        if (line.equals("QuarterMaps x = new QuarterMaps();")) {
            calls.add("final " + line);
        } else if (call.matches()) {
            String answer = call.group(2).replace("throws ", "throws.").replace("\"", "");
            answers.add(answer);
            where.add("README.md, line " + number + ": " + call.group(1));
            calls.add("calls.add(() -> " + call.group(1) + ");");
        } else {
            unknown.add(line);
        }
    }

    private String program() {
        StringBuilder program = new StringBuilder("import java.util.*;\nimport java.util.function.*;\n");
        program.append("public final class ReadmeCalls {\n").append(String.join("\n", methods));
        program.append("\npublic static List<Supplier<Object>> calls() {\nList<Supplier<Object>> calls = new ArrayList<>();\n");
        return program.append(String.join("\n", calls)).append("\nreturn calls;\n}\n}\n").toString();
    }

    private void dueAsShown(Path made) throws Exception {
        try (URLClassLoader loader = new URLClassLoader(new URL[] {made.toUri().toURL()})) {
            List<?> shown = (List<?>) loader.loadClass("ReadmeCalls").getMethod("calls").invoke(null);
            Checks.due("calls shown", answers.size(), () -> shown.size());
            for (int i = 0; i < shown.size(); i++) {
                Supplier<?> call = (Supplier<?>) shown.get(i);
                Checks.due(where.get(i), answers.get(i), () -> call.get());
            }
        }
    }

    private static void namesAllCalls(String page) {
        for (Method method : QuarterMaps.class.getDeclaredMethods()) {
            if (Modifier.isPublic(method.getModifiers())) {
                Checks.due("README.md names " + method.getName(), true, () -> page.contains("`" + method.getName() + "`"));
            }
        }
    }

    private static void namesAllTests(String page) throws IOException {
        try (Stream<Path> files = Files.list(Path.of("src/test/java"))) {
            List<String> tests = files.map(p -> p.getFileName().toString()).filter(n -> n.endsWith("Test.java"))
                .map(n -> n.replace(".java", "")).sorted().collect(Collectors.toList());
            List<String> named = Arrays.stream(page.split("\n")).filter(l -> l.matches("\\| \\w+Test \\|.*"))
                .map(l -> l.split(" ")[1]).sorted().collect(Collectors.toList());
            Checks.due("the tests that README.md names", tests, () -> named);
        }
    }
}
