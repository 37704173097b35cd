import java.io.IOException;
import java.lang.reflect.InvocationTargetException;
import java.lang.reflect.Method;
import java.lang.reflect.Modifier;
import java.net.URL;
import java.net.URLClassLoader;
import java.nio.file.Files;
import java.nio.file.Path;
import java.util.ArrayList;
import java.util.List;
import java.util.regex.Matcher;
import java.util.regex.Pattern;
import javax.tools.JavaCompiler;
import javax.tools.ToolProvider;

/**
 * What README.md shows as Java is compiled and run as it stands there, one block behind the other, and
 * each line's call has to answer what the line says behind "//". So what is shown can't part from what
 * is tested. README.md is looked for where the test is run: that is the project's directory.
 */
public final class ReadmeTest {
    private static final Checks CHECKS = new Checks();
    // A call, with or without a variable for its answer; behind it the answer, and a remark or none.
    private static final Pattern LINE = Pattern.compile(
            "(?<variable>\\w+ \\w+ = )?(?<call>(new SolutionBoxes|\\w+\\.\\w+)\\([^()]*\\));"
            + "( +// (?<due>throws \\w+|[\\w-]+)(: .+)?)?");

    public static void main(String[] args) throws IOException, ReflectiveOperationException {
        List<String> lines = linesOfJava(Files.readAllLines(Path.of("README.md")));
        StringBuilder body = new StringBuilder();
        for (String line : lines) {
            body.append(statements(line));
        }
        run(body.toString());
        eachCallIsShown(lines);
        CHECKS.end();
    }

    private static List<String> linesOfJava(List<String> text) {
        List<String> lines = new ArrayList<>();
        boolean inside = false;
        for (String line : text) {
            if (line.startsWith("```")) {
                inside = !inside && line.equals("```java");
            } else if (inside && !line.isBlank()) {
                lines.add(line);
            }
        }
        CHECKS.dueTrue("README.md shows calls", !lines.isEmpty());
        return lines;
    }

    /** A line of README.md as statements that make its call and hand on what that answers. */
    private static String statements(String line) {
        Matcher parts = LINE.matcher(line);
        if (!parts.matches()) {
            CHECKS.dueTrue("this line is a call with its answer: " + line, false);
            return "";
        }
        String call = parts.group("call");
        String due = parts.group("due");
        String variable = parts.group("variable");
        if (due == null) {
            boolean answersNothing = call.startsWith("new ") || call.endsWith(".clear()");
            CHECKS.dueTrue("an answer stands behind " + line, answersNothing);
            return (variable == null ? "" : variable) + call + ";\n";
        }
        if (due.startsWith("throws ")) {
            return "ReadmeTest.answered(\"" + line + "\", \"" + due + "\", ReadmeTest.thrown(() -> " + call + "));\n";
        }
        if (variable == null) {
            return "ReadmeTest.answered(\"" + line + "\", \"" + due + "\", String.valueOf(" + call + "));\n";
        }
        String name = variable.split(" ")[1];
        return variable + call + ";\n"
                + "ReadmeTest.answered(\"" + line + "\", \"" + due + "\", String.valueOf(" + name + "));\n";
    }

    /** Called by what is made of README.md. */
    public static void answered(String line, String due, String got) {
        CHECKS.same("README.md: " + line.strip(), due, got);
    }

    public static String thrown(Runnable call) {
        try {
            call.run();
            return "nothing is thrown";
        } catch (RuntimeException e) {
            return "throws " + e.getClass().getSimpleName();
        }
    }

    private static void run(String body) throws IOException, ReflectiveOperationException {
        JavaCompiler javac = ToolProvider.getSystemJavaCompiler();
        Path directory = Files.createTempDirectory("readme");
        Path source = directory.resolve("ReadmeExample.java");
        Files.writeString(source, "public final class ReadmeExample {\npublic static void run() {\n" + body + "}\n}\n");
        String classes = System.getProperty("java.class.path");
        int failed = javac.run(null, null, null, "-cp", classes, "-d", directory.toString(), source.toString());
        CHECKS.dueTrue("what README.md shows compiles", failed == 0);
        if (failed == 0) {
            try (URLClassLoader loader = new URLClassLoader(new URL[] {directory.toUri().toURL()})) {
                loader.loadClass("ReadmeExample").getMethod("run").invoke(null);
            } catch (InvocationTargetException e) {
                CHECKS.same("README.md: its calls", "none throws but where it says so", e.getCause().toString());
            }
        }
        Files.deleteIfExists(directory.resolve("ReadmeExample.class"));
        Files.delete(source);
        Files.delete(directory);
    }

    private static void eachCallIsShown(List<String> lines) {
        for (Method method : SolutionBoxes.class.getDeclaredMethods()) {
            if (Modifier.isPublic(method.getModifiers())) {
                String call = "." + method.getName() + "(";
                CHECKS.dueTrue("README.md shows " + call, lines.stream().anyMatch(line -> line.contains(call)));
            }
        }
    }
}
