import java.io.IOException;
import java.lang.reflect.Method;
import java.lang.reflect.Modifier;
import java.net.URL;
import java.net.URLClassLoader;
import java.nio.file.Files;
import java.nio.file.Path;
import java.util.ArrayList;
import java.util.List;
import java.util.Map;
import java.util.TreeMap;
import java.util.regex.Matcher;
import java.util.regex.Pattern;
import javax.tools.JavaCompiler;
import javax.tools.ToolProvider;

/** README.md: its example, as it stands there, gives the answers that it tells, and its calls are those of the class. */
public final class ReadmeTest {
    private static final String MADE = "RedactCheck check = new RedactCheck();";
    /** A call, kept under a name or not, and behind it the answer or the exception that it tells. */
    private static final Pattern CALL = Pattern.compile("(?:int (\\w+) = )?(check\\.\\w+\\(.*\\)); *// (-?\\d+|\\w+Exception)(?::.*)?");
    private static final Pattern ROW = Pattern.compile("\\| `(\\w+)\\((.*?)\\)` \\|.*\\|(.*)\\|");
    private static final Pattern EXCEPTION = Pattern.compile("\\w+Exception");

    private ReadmeTest() {
    }

    public static void main(String[] args) throws IOException, ReflectiveOperationException {
        List<String> readme = Files.readAllLines(Path.of("README.md"));
        example(linesOfExample(readme));
        Check.same("the table of calls", callsOfTable(readme).toString(), callsOfClass().toString());
        Check.same("the tests that it names", testsNamed(readme).toString(), testsThere().toString());
        Check.end();
    }

    private static List<String> linesOfExample(List<String> readme) {
        int from = readme.indexOf("```java") + 1;
        int length = from == 0 ? 0 : readme.subList(from, readme.size()).indexOf("```");
        Check.due("README.md has an example", length > 0 ? 1 : 0, 1);
        return readme.subList(from, from + Math.max(length, 0));
    }

    private static void example(List<String> lines) throws IOException, ReflectiveOperationException {
        StringBuilder body = new StringBuilder();
        List<String> calls = new ArrayList<>();
        List<String> due = new ArrayList<>();
        for (String line : lines) {
            Matcher call = CALL.matcher(line);
            if (call.matches()) {
                body.append(call.group(1) == null ? asked(call.group(2)) : kept(call.group(1), call.group(2)));
                calls.add(call.group(2));
                due.add(call.group(3));
            } else {
                body.append(line).append('\n');
                Check.due("a line that tells its answer: " + line, line.isEmpty() || line.equals(MADE) ? 1 : 0, 1);
            }
        }
        List<String> answers = answersOf(body.toString());
        Check.due("calls that the example makes", answers.size(), due.size());
        for (int i = 0; i < Math.min(answers.size(), due.size()); i++) {
            Check.same("the example's " + calls.get(i), answers.get(i), due.get(i));
        }
    }

    private static String asked(String call) {
        return "try { answers.add(\"\" + " + call + "); }"
                + " catch (RuntimeException e) { answers.add(e.getClass().getSimpleName()); }\n";
    }

    private static String kept(String name, String call) {
        return "int " + name + " = " + call + "; answers.add(\"\" + " + name + ");\n";
    }

    /** Compiles the example as a class of its own, runs it, and tells what its calls answered. */
    private static List<String> answersOf(String body) throws IOException, ReflectiveOperationException {
        Path folder = Files.createTempDirectory("readme");
        Path source = folder.resolve("Example.java");
        Path made = folder.resolve("Example.class");
        List<String> answers = new ArrayList<>();
        try {
            Files.writeString(source, "public final class Example {\n"
                    + "public static void run(java.util.List<String> answers) {\n" + body + "}\n}\n");
            if (isCompiled(source)) {
                try (URLClassLoader loader = new URLClassLoader(new URL[] {folder.toUri().toURL()})) {
                    loader.loadClass("Example").getMethod("run", List.class).invoke(null, answers);
                }
            }
        } finally {
            Files.deleteIfExists(source);
            Files.deleteIfExists(made);
            Files.deleteIfExists(folder);
        }
        return answers;
    }

    private static boolean isCompiled(Path source) {
        JavaCompiler compiler = ToolProvider.getSystemJavaCompiler();
        int code = compiler == null ? -1
                : compiler.run(null, null, null, "-cp", System.getProperty("java.class.path"), source.toString());
        Check.due("the example's compilation", code, 0);
        return code == 0;
    }

    /** Of each call of the table how many numbers it takes, and its exceptions in their order. */
    private static Map<String, String> callsOfTable(List<String> readme) {
        Map<String, String> calls = new TreeMap<>();
        for (String line : readme) {
            Matcher row = ROW.matcher(line);
            if (row.matches()) {
                StringBuilder text = new StringBuilder();
                text.append(row.group(2).isEmpty() ? 0 : row.group(2).split(", ").length);
                Matcher thrown = EXCEPTION.matcher(row.group(3));
                while (thrown.find()) {
                    text.append(' ').append(thrown.group());
                }
                calls.put(row.group(1), text.toString());
            }
        }
        return calls;
    }

    private static Map<String, String> callsOfClass() {
        Map<String, String> calls = new TreeMap<>();
        for (Method method : RedactCheck.class.getDeclaredMethods()) {
            if (Modifier.isPublic(method.getModifiers())) {
                StringBuilder text = new StringBuilder();
                text.append(method.getParameterCount());
                for (Class<?> thrown : method.getExceptionTypes()) {
                    text.append(' ').append(thrown.getSimpleName());
                }
                calls.put(method.getName(), text.toString());
            }
        }
        return calls;
    }

    private static List<String> testsNamed(List<String> readme) {
        List<String> names = new ArrayList<>();
        for (String line : readme) {
            if (line.matches("\\| `\\w+Test` \\|.*")) {
                names.add(line.split("`")[1]);
            }
        }
        names.sort(null);
        return names;
    }

    private static List<String> testsThere() {
        List<String> names = new ArrayList<>();
        String[] files = Path.of("src/test/java").toFile().list();
        for (String file : files == null ? new String[0] : files) {
            if (file.endsWith("Test.java")) {
                names.add(file.substring(0, file.length() - ".java".length()));
            }
        }
        names.sort(null);
        return names;
    }
}
