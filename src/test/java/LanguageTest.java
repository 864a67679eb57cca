import java.io.IOException;
import java.lang.reflect.Field;
import java.lang.reflect.Method;
import java.lang.reflect.Modifier;
import java.nio.charset.StandardCharsets;
import java.nio.file.Files;
import java.nio.file.Path;
import java.util.ArrayList;
import java.util.Arrays;
import java.util.List;
import java.util.Set;
import java.util.TreeSet;
import java.util.regex.Matcher;
import java.util.regex.Pattern;

/** Some rules of LANGUAGE.md, by patterns in the text of the class and by what is compiled of it; not all of them. */
public final class LanguageTest {
    private static final Due DUE = new Due();
    private static final Path SOURCE = Path.of("src/main/java/CaptionLines.java");
    private static final Set<String> EXCEPTIONS = Set.of("IllegalStateException", "IllegalArgumentException",
            "IndexOutOfBoundsException", "ArithmeticException", "UnsupportedOperationException",
            "NoSuchElementException", "RuntimeException");

    public static void main(String[] args) throws IOException {
        String source = Files.readString(SOURCE, StandardCharsets.ISO_8859_1);
        String code = withoutComments(source);
        DUE.sentence("LANGUAGE.md", "The program is one file, [..] without a package line");
        DUE.answers("[]", "package lines", () -> found(code, "\\bpackage\\b[^;]*;"));
        DUE.sentence("rule 2", "no lambda, no method reference");
        DUE.answers("[]", "arrows and double colons", () -> found(code, "->|::"));
        DUE.sentence("rule 3", "Texts hold characters 0 to 255 alone");
        DUE.answers("[]", "signs beyond ASCII", () -> found(source, "[^\\x00-\\x7f]"));
        DUE.sentence("rule 4", "The library: only what stands here");
        DUE.answers("[]", "what is named of the library and does not stand there", () -> libraryNotListed(code));
        DUE.sentence("rule 6", "throw new E() or throw new E(\"a written text\"), E one of");
        DUE.answers("[]", "other throws", () -> otherThrows(code));
        DUE.sentence("rule 6", "No finally, [..] No synchronized, assert");
        DUE.answers("[]", "such words", () -> found(code, "\\b(finally|synchronized|assert)\\b"));
        DUE.sentence("rule 7", "No call may ever throw by itself (only by a throw statement)");
        DUE.answers("[]", "catches, which could hide such a throw", () -> found(code, "\\b(try|catch)\\b"));
        DUE.sentence("rule 13", "No clock, no randomness, no file, network, thread or environment");
        DUE.answers("[]", "imports", () -> found(code, "\\bimport\\b[^;]*;"));
        sizes(code);
        classesInside();
        DUE.end();
    }

    /** Comments become " ", and texts in quotes stay quotes with nothing between them. */
    private static String withoutComments(String source) {
        return source.replaceAll("\"(\\\\.|[^\"\\\\\n])*\"", "\"\"").replaceAll("(?s)/\\*.*?\\*/|//[^\n]*", " ");
    }

    private static List<String> found(String text, String pattern) {
        List<String> all = new ArrayList<>();
        Matcher matcher = Pattern.compile(pattern).matcher(text);
        while (matcher.find()) {
            all.add(matcher.group());
        }
        return all;
    }

    /** Of the library's classes the code may name the functions of Math, Integer and Long: a name, then a "(". */
    private static TreeSet<String> libraryNotListed(String code) {
        TreeSet<String> others = new TreeSet<>(found(code, "\\b[A-Z]\\w*\\.\\w+\\b *\\(?"));
        others.removeIf(name -> name.matches("(Math|Integer|Long)\\.\\w+ *\\(") && !name.contains("Exact"));
        return others;
    }

    private static List<String> otherThrows(String code) {
        List<String> others = new ArrayList<>();
        for (String thrown : found(code, "\\bthrow\\b[^;]*;")) {
            Matcher right = Pattern.compile("throw new (\\w+)\\((\"\")?\\);").matcher(thrown);
            if (!right.matches() || !EXCEPTIONS.contains(right.group(1))) {
                others.add(thrown);
            }
        }
        return others;
    }

    private static void sizes(String code) {
        DUE.sentence("rule 11", "Methods stay short (some sixty lines)");
        // A method of a class inside begins with eight spaces, one of the class itself with four.
        for (String method : found(code, "(?ms)^( {4}| {8})\\w[^;{=]*\\)[^;{=]*\\{\n.*?^\\1\\}")) {
            String name = method.strip().split("\\{")[0];
            DUE.answers(true, name + "is short", () -> method.lines().count() <= 60);
        }
        DUE.sentence("rule 11", "the file has at most some twelve classes");
        DUE.answers(true, "classes", () -> CaptionLines.class.getDeclaredClasses().length + 1 <= 12);
    }

    private static void classesInside() {
        List<Class<?>> all = new ArrayList<>(Arrays.asList(CaptionLines.class.getDeclaredClasses()));
        DUE.sentence("rule 1", "the classes inside it, which are private or package-visible and static");
        for (Class<?> inside : all) {
            int marks = inside.getModifiers();
            DUE.answers(true, inside.getSimpleName(), () -> Modifier.isStatic(marks)
                    && !Modifier.isPublic(marks) && !Modifier.isProtected(marks));
        }
        all.add(CaptionLines.class);
        DUE.sentence("rule 11", "A method takes at most seven parameters. [..] a class some twenty fields");
        for (Class<?> one : all) {
            for (Method method : one.getDeclaredMethods()) {
                DUE.answers(true, one.getSimpleName() + "." + method.getName(), () -> method.getParameterCount() <= 7);
            }
            long fields = Arrays.stream(one.getDeclaredFields()).filter(f -> !Modifier.isStatic(f.getModifiers())).count();
            DUE.answers(true, "fields of " + one.getSimpleName(), () -> fields <= 20);
        }
        DUE.sentence("rule 5", "Static fields are final");
        for (Class<?> one : all) {
            for (Field field : one.getDeclaredFields()) {
                int marks = field.getModifiers();
                DUE.answers(true, one.getSimpleName() + "." + field.getName(),
                        () -> !Modifier.isStatic(marks) || Modifier.isFinal(marks));
            }
        }
    }
}
