import java.lang.reflect.Field;
import java.lang.reflect.Method;
import java.lang.reflect.Modifier;
import java.nio.charset.StandardCharsets;
import java.nio.file.Files;
import java.nio.file.Path;
import java.util.HashSet;
import java.util.Set;
import java.util.TreeSet;
import java.util.regex.Matcher;
import java.util.regex.Pattern;

/** LANGUAGE.md: the face, and the rules that can be seen from the file's text and the class. */
public final class LanguageTest {
    private static final String FACE = "boolean isFitted(int,int); boolean isMinus(int); double dial(int); double log(int); "
        + "double value(int,int); int choose(int); int clear(); int count(int); int fault(int); int run(); int size(int); "
        + "int step(int,int,int,int)";

    // What the rules leave no use for, in the text without its comments.
    private static final String[] FORBIDDEN = {
        "\\bimport\\b", "\\bpackage\\b", "\\bfinally\\b", "\\btry\\b", "\\bcatch\\b", "\\bthrow\\b", "\\bsynchronized\\b",
        "\\bassert\\b", "->", "::", "\\brecord\\b", "\\bDouble\\b", "\\bFloat\\b", "\\bSystem\\b", "\\bObject\\b",
        "\\bstatic\\s*\\{", "\\bMath\\.(?!max\\(|min\\()", "\\binstanceof\\b", "\\bvar\\b", "\"", "\\bString\\b"};

    public static void main(String[] args) throws Exception {
        Checks checks = new Checks("language");
        Set<String> face = new TreeSet<>();
        Set<String> names = new HashSet<>();
        for (Method method : GaugeBench.class.getDeclaredMethods()) {
            if (!Modifier.isPrivate(method.getModifiers())) {
                checks.due(method + " is public", Modifier.isPublic(method.getModifiers()), true);
                face.add(method.toGenericString().replaceAll("public |GaugeBench\\.", ""));
                names.add(method.getName());
            }
        }
        checks.due("the face " + face, String.join("; ", face).equals(FACE), true);
        checks.due("constructors", GaugeBench.class.getDeclaredConstructors().length, 1);
        checks.due("public final", GaugeBench.class.getModifiers(), Modifier.PUBLIC | Modifier.FINAL);
        Class<?>[] inside = GaugeBench.class.getDeclaredClasses();
        checks.due("at most twelve classes", inside.length + 1 <= 12, true);
        members(checks, GaugeBench.class, names);
        for (Class<?> one : inside) {
            checks.due(one + " is static", Modifier.isStatic(one.getModifiers()), true);
            checks.due(one + " is public or protected", one.getModifiers() & (Modifier.PUBLIC | Modifier.PROTECTED), 0);
            members(checks, one, names);
        }
        text(checks);
        checks.end();
    }

    private static void members(Checks checks, Class<?> of, Set<String> names) {
        int own = 0;
        for (Field field : of.getDeclaredFields()) {
            if (Modifier.isStatic(field.getModifiers())) {
                String type = field.getType().getSimpleName();
                checks.due(field + " is final", Modifier.isFinal(field.getModifiers()), true);
                checks.due(field + " is a constant", type.matches("int|long|boolean|char|(int|long|char|byte)\\[\\]"), true);
            } else {
                own++;
            }
        }
        checks.due(of + " has at most twenty fields", own <= 20, true);
        for (Method method : of.getDeclaredMethods()) {
            checks.due(method + " has at most seven parameters", method.getParameterCount() <= 7, true);
            boolean isPrivate = Modifier.isPrivate(method.getModifiers());
            checks.due(method + " bears a public one's name", isPrivate && names.contains(method.getName()), false);
        }
    }

    private static void text(Checks checks) throws Exception {
        String whole = Files.readString(Path.of("src/main/java/GaugeBench.java"), StandardCharsets.US_ASCII);
        String text = whole.replaceAll("(?s)/\\*.*?\\*/", "").replaceAll("//[^\n]*", "");
        for (String forbidden : FORBIDDEN) {
            Matcher found = Pattern.compile(forbidden).matcher(text);
            checks.due(forbidden + " stands in the file", found.find(), false);
        }
        int lines = 0;
        for (String line : text.split("\n")) {
            lines = line.matches(" {4,8}(public|private|static|final|int|double|boolean|long|void|[A-Z]\\w*)\\b.*\\{") ? 1 : lines + 1;
            checks.due("the method's length up to: " + line, lines <= 70, true);
        }
    }
}
