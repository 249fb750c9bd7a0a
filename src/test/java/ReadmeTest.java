import java.io.IOException;
import java.lang.reflect.Method;
import java.lang.reflect.Modifier;
import java.net.URL;
import java.net.URLClassLoader;
import java.nio.file.Files;
import java.nio.file.Path;
import java.util.ArrayList;
import java.util.List;
import java.util.Set;
import java.util.TreeSet;
import java.util.regex.Matcher;
import java.util.regex.Pattern;
import javax.tools.ToolProvider;

/** README.md's examples, compiled and run: each call's answer is the one named behind it. */
public final class ReadmeTest {
    private static final Path PAGE = Path.of("README.md");
    private static final Path BUILD = Path.of("build", "readme");
    private static final String PROGRAM = "ReadmeExamples";
    private static final Pattern EXAMPLE = Pattern.compile("(?ms)^```java\\n(.*?)^```$");
    private static final String MAKING = "KnotBand bench = new KnotBand();";
    private static final Pattern CALL = Pattern.compile(
        "(?:int (?<kept>\\w+) = )?(?<call>bench\\.(?<method>\\w+)\\([^()]*\\)); +// "
            + "(?<due>-?\\d+|NONE|true|false|throws \\w+)(?:: .+)?");

    private final Checks checks = new Checks();
    private final StringBuilder program = new StringBuilder();
    private final List<String> shown = new ArrayList<>();
    private final List<String> due = new ArrayList<>();
    private final Set<String> methods = new TreeSet<>();

    public static void main(String[] args) throws IOException, ReflectiveOperationException {
        ReadmeTest test = new ReadmeTest();
        test.writeProgram();
        if (test.compiles()) {
            test.compareAnswers();
        }
        test.methodsShown();
        test.checks.end("ReadmeTest");
    }

    private void writeProgram() throws IOException {
        program.append("import java.util.*;\n");
        program.append("public final class ").append(PROGRAM).append(" {\n");
        program.append("static String of(java.util.concurrent.Callable<?> call) {\n");
        program.append("try { return String.valueOf(call.call()); }\n");
        program.append("catch (Exception e) { return \"throws \" + e.getClass().getSimpleName(); } }\n");
        program.append("public static List<String> answers() {\n");
        program.append("List<String> answers = new ArrayList<>();\n");
        Matcher example = EXAMPLE.matcher(Files.readString(PAGE));
        while (example.find()) {
            program.append("{\n");
            example.group(1).lines().filter(line -> !line.isBlank()).forEach(this::writeLine);
            program.append("}\n");
        }
        program.append("return answers; } }\n");
        Files.createDirectories(BUILD);
        Files.writeString(source(), program);
    }

    private void writeLine(String line) {
        Matcher call = CALL.matcher(line);
        boolean named = call.matches();
        checks.same("names an answer: " + line, named || line.equals(MAKING) ? 1 : 0, 1);
        if (!named) {
            program.append(line).append('\n');
            return;
        }
        String asked = call.group("call");
        if (call.group("kept") != null) {
            program.append(line).append('\n');
            asked = call.group("kept");
        }
        program.append("answers.add(of(() -> ").append(asked).append("));\n");
        shown.add(line);
        due.add(call.group("due").replace("NONE", String.valueOf(KnotBand.NONE)));
        methods.add(call.group("method"));
    }

    private static Path source() {
        return BUILD.resolve(PROGRAM + ".java");
    }

    private boolean compiles() {
        int failed = ToolProvider.getSystemJavaCompiler().run(null, null, null,
            "-cp", System.getProperty("java.class.path"), "-d", BUILD.toString(), source().toString());
        checks.same("the examples compile", failed, 0);
        return failed == 0;
    }

    private void compareAnswers() throws IOException, ReflectiveOperationException {
        URL[] where = {BUILD.toUri().toURL()};
        try (URLClassLoader loader = new URLClassLoader(where)) {
            List<?> answers = (List<?>) loader.loadClass(PROGRAM).getMethod("answers").invoke(null);
            checks.same("answers", answers.size(), due.size());
            for (int i = 0; i < answers.size(); i++) {
                checks.sameText(shown.get(i), (String) answers.get(i), due.get(i));
            }
        }
    }

    private void methodsShown() {
        for (Method method : KnotBand.class.getDeclaredMethods()) {
            if (Modifier.isPublic(method.getModifiers())) {
                checks.same("is shown: " + method.getName(), methods.contains(method.getName()) ? 1 : 0, 1);
            }
        }
    }
}
