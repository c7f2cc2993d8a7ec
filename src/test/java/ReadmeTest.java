import java.io.ByteArrayOutputStream;
import java.io.PrintStream;
import java.lang.reflect.Field;
import java.lang.reflect.Method;
import java.lang.reflect.Modifier;
import java.net.URL;
import java.net.URLClassLoader;
import java.nio.charset.StandardCharsets;
import java.nio.file.Files;
import java.nio.file.Path;
import java.util.List;
import java.util.regex.Matcher;
import java.util.regex.Pattern;
import java.util.stream.Collectors;
import java.util.stream.Stream;
import javax.tools.ToolProvider;

/** README.md: its example prints what it says, and its tables have every call, every step and every test. */
public final class ReadmeTest {
    private static final Checks checks = new Checks("README.md");

    public static void main(String[] args) throws Exception {
        String page = Files.readString(Path.of("README.md"));
        String printed = printedBy(block(page, "java"));
        checks.due("what the example prints:\n" + printed, printed.equals(block(page, "text")), true);
        calls(page);
        steps(page);
        tests(page);
        checks.end();
    }

    /** The first block of that kind. */
    private static String block(String page, String kind) {
        Matcher found = Pattern.compile("```" + kind + "\n(.*?)```", Pattern.DOTALL).matcher(page);
        return found.find() ? found.group(1) : "";
    }

    private static String printedBy(String program) throws Exception {
        Path room = Files.createTempDirectory("example");
        Path file = Files.writeString(room.resolve("Example.java"), program);
        String classes = System.getProperty("java.class.path");
        int wrong = ToolProvider.getSystemJavaCompiler().run(null, null, null, "-cp", classes, "-d", room.toString(), file.toString());
        checks.due("exit code of compiling the example", wrong, 0);
        ByteArrayOutputStream bytes = new ByteArrayOutputStream();
        PrintStream before = System.out;
        try (URLClassLoader loader = new URLClassLoader(new URL[] {room.toUri().toURL()});
                PrintStream out = new PrintStream(bytes, true, StandardCharsets.UTF_8)) {
            System.setOut(out);
            loader.loadClass("Example").getMethod("main", String[].class).invoke(null, (Object) new String[0]);
        } finally {
            System.setOut(before);
            remove(room);
        }
        return bytes.toString(StandardCharsets.UTF_8).replace(System.lineSeparator(), "\n");
    }

    private static void remove(Path room) throws Exception {
        try (Stream<Path> files = Files.list(room)) {
            for (Path file : files.collect(Collectors.toList())) {
                Files.delete(file);
            }
        }
        Files.delete(room);
    }

    private static void calls(String page) {
        for (Method method : GaugeBench.class.getDeclaredMethods()) {
            if (Modifier.isPublic(method.getModifiers())) {
                String arguments = Stream.generate(() -> "\\w+").limit(method.getParameterCount()).collect(Collectors.joining(", "));
                String row = "(?m)^\\| `" + method.getName() + "\\(" + arguments + "\\)` \\| .+ \\|$";
                checks.due("whether there is a row of " + method.getName(), Pattern.compile(row).matcher(page).find(), true);
            }
        }
    }

    private static void steps(String page) throws Exception {
        for (Field step : Steps.class.getFields()) {
            String row = "| " + step.getInt(null) + " | " + step.getName() + " |";
            checks.due("whether there is a row of " + step.getName(), page.contains(row), true);
        }
    }

    private static void tests(String page) throws Exception {
        try (Stream<Path> files = Files.list(Path.of("src/test/java"))) {
            List<String> names = files.map(file -> file.getFileName().toString()).filter(name -> name.endsWith("Test.java"))
                .map(name -> name.replace(".java", "")).sorted().collect(Collectors.toList());
            for (String name : names) {
                checks.due("whether there is a row of " + name, page.contains("| " + name + " |"), true);
            }
        }
    }
}
