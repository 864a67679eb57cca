import java.io.IOException;
import java.lang.reflect.InvocationTargetException;
import java.lang.reflect.Method;
import java.lang.reflect.Modifier;
import java.nio.file.Files;
import java.nio.file.Path;
import java.util.ArrayList;
import java.util.List;
import java.util.TreeSet;
import java.util.regex.Matcher;
import java.util.regex.Pattern;
import java.util.stream.Stream;

/** README.md's example is made call by call and must answer what stands behind each; its table names each test. */
public final class ReadmeTest {
    private static final Due DUE = new Due();
    private static final Pattern TYPED = Pattern.compile("for \\(char sign : \"(.*)\"\\.toCharArray\\(\\)\\) \\{");
    private static final Pattern MADE = Pattern.compile("c\\.(\\w+)\\((.*)\\); *// (throws )?([-\\w]+).*");

    private final CaptionLines c = new CaptionLines();
    private final TreeSet<String> called = new TreeSet<>();
    private String typed = "";

    public static void main(String[] args) throws IOException {
        String readme = Files.readString(Path.of("README.md"));
        new ReadmeTest().example(readme);
        DUE.sentence("Issue 9", "README.md says [..] how to run its tests");
        DUE.answers(true, "README.md names .ci/run", () -> readme.contains("\n    .ci/run\n"));
        DUE.answers(testsThere(), "the tests in README.md's table", () -> new TreeSet<>(inTable(readme)));
        DUE.end();
    }

    private void example(String readme) {
        DUE.sentence("Issue 9", "README.md says how to use the class");
        int begin = readme.indexOf("```java\n");
        int end = readme.indexOf("```\n", begin + 1);
        DUE.answers(true, "README.md has an example", () -> begin >= 0 && end > begin);
        readme.substring(begin, end).lines().map(String::strip).forEach(this::line);
        TreeSet<String> face = new TreeSet<>();
        for (Method method : CaptionLines.class.getDeclaredMethods()) {
            if (Modifier.isPublic(method.getModifiers())) {
                face.add(method.getName());
            }
        }
        DUE.answers(face, "the methods in the example", () -> called);
    }

    private void line(String line) {
        Matcher typing = TYPED.matcher(line);
        Matcher made = MADE.matcher(line);
        if (typing.matches()) {
            typed = typing.group(1);
        } else if (line.startsWith("c.unit(sign);")) {
            called.add("unit");
            Due.type(c, typed);
        } else if (made.matches()) {
            called.add(made.group(1));
            String want = (made.group(3) == null ? "" : "throws.") + made.group(4);
            DUE.answers(want, line, () -> call(made.group(1), made.group(2)));
        } else {
            boolean others = line.matches("```java|\\}||CaptionLines c = new CaptionLines\\(\\);");
            DUE.answers(true, "a line of README.md's example that can be read: " + line, () -> others);
        }
    }

    private Object call(String name, String arguments) {
        String[] written = arguments.isEmpty() ? new String[0] : arguments.split(", ");
        Object[] given = new Object[written.length];
        for (int i = 0; i < written.length; i++) {
            given[i] = argument(written[i]);
        }
        for (Method method : CaptionLines.class.getDeclaredMethods()) {
            if (Modifier.isPublic(method.getModifiers()) && method.getName().equals(name)) {
                return invoke(method, given);
            }
        }
        return "no such method";
    }

    private static Object argument(String written) {
        if (written.equals("true") || written.equals("false")) {
            return Boolean.valueOf(written);
        }
        return written.startsWith("'") ? (int) written.charAt(1) : Integer.parseInt(written);
    }

    private Object invoke(Method method, Object[] given) {
        try {
            return method.invoke(c, given);
        } catch (InvocationTargetException e) {
            return "throws." + e.getCause().getClass().getSimpleName();
        } catch (IllegalAccessException e) {
            return "not public";
        }
    }

    private static TreeSet<String> testsThere() throws IOException {
        TreeSet<String> names = new TreeSet<>();
        try (Stream<Path> files = Files.list(Path.of("src/test/java"))) {
            files.map(file -> file.getFileName().toString()).filter(name -> name.endsWith("Test.java"))
                    .forEach(name -> names.add(name.replace(".java", "")));
        }
        return names;
    }

    private static List<String> inTable(String readme) {
        List<String> names = new ArrayList<>();
        Matcher row = Pattern.compile("(?m)^\\| (\\w+Test) \\|").matcher(readme);
        while (row.find()) {
            names.add(row.group(1));
        }
        return names;
    }
}
