import java.io.IOException;
import java.lang.reflect.Method;
import java.lang.reflect.Modifier;
import java.net.URL;
import java.net.URLClassLoader;
import java.nio.file.DirectoryStream;
import java.nio.file.Files;
import java.nio.file.Path;
import java.util.LinkedHashMap;
import java.util.List;
import java.util.Map;
import java.util.regex.Matcher;
import java.util.regex.Pattern;
import javax.tools.ToolProvider;

/**
 * The Java of README.md, all pieces as one run, is compiled as it stands there and run: each call's
 * answer is the number behind it. Every call of the face and every test of the project is named.
 */
public final class ReadmeTest {
    private static final Pattern CALL = Pattern.compile("order\\.(\\w+)\\((.*)\\);(.*)");
    private static final Pattern ANSWER = Pattern.compile("\\s*// (-?\\d+): .*");
    private static final Pattern TEXT = Pattern.compile("for \\(char letter : .*|    order\\.write\\(letter\\);|}");
    private static final String NEW = "ArrestOrder order = new ArrestOrder();";
    private static final int MOST_CALLS = 512;

    private static final Due due = new Due();

    public static void main(String[] args) throws Exception {
        Path project = Path.of(System.getProperty("project", "."));
        List<String> page = Files.readAllLines(project.resolve("README.md"));
        for (Map.Entry<String, long[]> answer : answers(compiled(source(page))).entrySet()) {
            due.is(answer.getKey(), answer.getValue()[0], answer.getValue()[1]);
        }
        everyCallIsNamed(page);
        everyTestIsNamed(project, String.join("\n", page));
        due.end();
    }

    /** A class whose method puts each answer that is told and that is given in a map. */
    private static String source(List<String> page) {
        StringBuilder code = new StringBuilder("public final class ReadmeCode {\n"
            + "public static void run(java.util.Map<String, long[]> answers) {\n");
        boolean inJava = false;
        int calls = 0;
        for (int at = 0; at < page.size(); at++) {
            String line = page.get(at);
            if (line.startsWith("```")) {
                inJava = line.equals("```java");
            } else if (inJava) {
                String own = "README.md, line " + (at + 1) + ": ";
                code.append(statement(own, line)).append('\n');
                calls++;
            }
        }
        due.holds("README.md shows calls", calls > 0);
        due.holds("README.md is a run of at most " + MOST_CALLS + " calls", calls < MOST_CALLS - 48);
        return code.append("}\n}\n").toString();
    }

    private static String statement(String own, String line) {
        Matcher call = CALL.matcher(line);
        if (!call.matches()) {
            due.holds(own + "only calls, the object and its text stand there",
                line.equals(NEW) || TEXT.matcher(line).matches());
            return line;
        }
        Matcher answer = ANSWER.matcher(call.group(3));
        if (!answer.matches()) {
            due.holds(own + "a call has its answer behind it", false);
            return line;
        }
        String made = "order." + call.group(1) + "(" + call.group(2) + ")";
        return "answers.put(\"" + own + made + "\", new long[] {" + answer.group(1) + "L, " + made + "});";
    }

    private static Class<?> compiled(String source) throws Exception {
        Path dir = Files.createTempDirectory("readme");
        Path file = dir.resolve("ReadmeCode.java");
        Files.writeString(file, source);
        int failed = ToolProvider.getSystemJavaCompiler().run(null, null, null,
            "-d", dir.toString(), "-cp", System.getProperty("java.class.path"), file.toString());
        due.is("README.md compiles", 0, failed);
        Class<?> made = null;
        if (failed == 0) {
            try (URLClassLoader loader = new URLClassLoader(new URL[] {dir.toUri().toURL()})) {
                made = loader.loadClass("ReadmeCode");
            }
        }
        Files.deleteIfExists(dir.resolve("ReadmeCode.class"));
        Files.delete(file);
        Files.delete(dir);
        return made;
    }

    private static Map<String, long[]> answers(Class<?> made) throws Exception {
        Map<String, long[]> answers = new LinkedHashMap<>();
        if (made != null) {
            made.getMethod("run", Map.class).invoke(null, answers);
        }
        return answers;
    }

    private static void everyCallIsNamed(List<String> page) {
        for (Method method : ArrestOrder.class.getDeclaredMethods()) {
            if (Modifier.isPublic(method.getModifiers())) {
                String call = "order." + method.getName() + "(";
                due.holds("README.md shows " + call + "..)", page.stream().anyMatch(l -> l.trim().startsWith(call)));
            }
        }
    }

    private static void everyTestIsNamed(Path project, String page) throws IOException {
        try (DirectoryStream<Path> tests = Files.newDirectoryStream(project.resolve("src/test/java"), "*Test.java")) {
            for (Path test : tests) {
                String name = test.getFileName().toString().replace(".java", "");
                due.holds("README.md names " + name, page.contains("- `" + name + "`:"));
            }
        }
    }
}
