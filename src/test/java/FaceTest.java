import java.lang.reflect.Constructor;
import java.lang.reflect.Field;
import java.lang.reflect.Method;
import java.lang.reflect.Modifier;
import java.util.Arrays;
import java.util.TreeSet;

/** The document's face, no member more (rule 1 of LANGUAGE.md), and static fields that are final (rule 5). */
public final class FaceTest {
    private static final Due DUE = new Due();
    private static final String[] METHODS = {
        "int unit(int) IllegalStateException IllegalArgumentException",
        "int clear()",
        "int text(int,int) IndexOutOfBoundsException IllegalStateException",
        "boolean falls(int,int) IndexOutOfBoundsException",
        "int shown(int,int) IndexOutOfBoundsException",
        "int sign(int,int,int,int) IndexOutOfBoundsException",
        "int lines(int,int,int) IndexOutOfBoundsException IllegalArgumentException",
        "int line(int,int) IndexOutOfBoundsException",
        "int level(int,int) IndexOutOfBoundsException",
        "boolean contract(int) IllegalStateException IllegalArgumentException",
        "int fingers(int,int) IndexOutOfBoundsException",
        "int cell(int) IndexOutOfBoundsException",
        "int back() IllegalStateException",
        "int zone(int,int,int) IllegalStateException IllegalArgumentException",
        "int heard(int,int) IllegalArgumentException",
        "boolean way(int,int,boolean) IndexOutOfBoundsException IllegalArgumentException",
        "int arrow(int,int) IndexOutOfBoundsException",
        "int count(int) IndexOutOfBoundsException"};

    public static void main(String[] args) {
        TreeSet<String> faced = new TreeSet<>();
        TreeSet<String> publicNames = new TreeSet<>();
        TreeSet<String> otherNames = new TreeSet<>();
        for (Method method : CaptionLines.class.getDeclaredMethods()) {
            if (Modifier.isPrivate(method.getModifiers())) {
                otherNames.add(method.getName());
            } else {
                faced.add(written(method));
                publicNames.add(method.getName());
            }
        }
        DUE.answers(new TreeSet<>(Arrays.asList(METHODS)), "the methods of the face", () -> faced);
        otherNames.retainAll(publicNames);
        DUE.answers("[]", "private methods with a public one's name", () -> otherNames);
        DUE.answers("public final", "the class", () -> Modifier.toString(CaptionLines.class.getModifiers()));
        Constructor<?>[] made = CaptionLines.class.getDeclaredConstructors();
        DUE.answers("[public CaptionLines()]", "the constructors", () -> Arrays.toString(made));
        fields();
        DUE.end();
    }

    private static String written(Method method) {
        StringBuilder all = new StringBuilder(method.getReturnType().getName()).append(' ').append(method.getName());
        String parameters = Arrays.toString(method.getParameterTypes()).replaceAll("[\\[\\] ]", "");
        all.append('(').append(parameters).append(')');
        for (Class<?> thrown : method.getExceptionTypes()) {
            all.append(' ').append(thrown.getSimpleName());
        }
        return all.toString();
    }

    private static void fields() {
        for (Field field : CaptionLines.class.getDeclaredFields()) {
            int marks = field.getModifiers();
            if (field.getName().equals("NONE")) {
                DUE.answers("public static final", "NONE", () -> Modifier.toString(marks));
            } else {
                DUE.answers(true, field.getName() + " is private", () -> Modifier.isPrivate(marks));
                DUE.answers(true, field.getName() + " is final", () -> Modifier.isFinal(marks));
            }
        }
    }
}
