import java.io.IOException;
import java.lang.reflect.Field;
import java.lang.reflect.Method;
import java.lang.reflect.Modifier;
import java.nio.file.Files;
import java.nio.file.Path;
import java.util.ArrayList;
import java.util.Arrays;
import java.util.List;
import java.util.TreeSet;

/** Those rules of LANGUAGE.md that single lines or the members of the classes show; run at the project's root. */
public final class RulesTest {
    private static final String[] RULED_OUT = {"->", "::", "try", "catch", "finally", "package ", "synchronized", "assert",
        "instanceof", "Exact(", "System.", "Object", "var ", "getMessage", "@", "abstract ", "NaN", "Thread"};
    private static final int MOST_CLASSES = 12;
    private static final int MOST_FIELDS = 20;
    private static final int MOST_PARAMETERS = 7;

    public static void main(String[] args) throws IOException {
        dueLines();
        List<Class<?>> classes = new ArrayList<>(List.of(TubHire.class));
        for (Class<?> inside : TubHire.class.getDeclaredClasses()) {
            classes.add(inside);
            int modifiers = inside.getModifiers();
            Checks.due("whether " + inside.getName() + " is static, and neither public nor protected",
                    Modifier.isStatic(modifiers) && !Modifier.isPublic(modifiers) && !Modifier.isProtected(modifiers), true);
        }
        Checks.due("whether there are at most some twelve classes", classes.size() <= MOST_CLASSES, true);
        for (Class<?> one : classes) {
            dueFields(one);
            dueMethods(one);
        }
        Checks.end();
    }

    private static void dueLines() throws IOException {
        List<String> lines = Files.readAllLines(Path.of("src/main/java/TubHire.java"));
        int start = 0;
        for (int i = 0; i < lines.size(); i++) {
            String line = lines.get(i);
            boolean isComment = line.strip().startsWith("//") || line.strip().startsWith("*")
                    || line.strip().startsWith("/*");
            for (String word : RULED_OUT) {
                Checks.due("whether line " + (i + 1) + " holds " + word, !isComment && line.contains(word), false);
            }
            if (line.startsWith("import")) {
                Checks.due("the import", line, "import java.util.NoSuchElementException;");
            }
            Checks.due("the signs of line " + (i + 1) + " outside 32 to 126",
                    line.chars().filter(sign -> sign < 32 || sign > 126).count(), 0L);
            if (line.isEmpty()) {
                Checks.due("whether the lines before line " + (i + 1) + " are at most 60", i - start <= 60, true);
                start = i;
            }
        }
    }

    /** Static fields are final, and a class has some twenty fields beside them. */
    private static void dueFields(Class<?> one) {
        int fields = 0;
        for (Field field : one.getDeclaredFields()) {
            if (!Modifier.isStatic(field.getModifiers())) {
                fields++;
            } else if (!field.isSynthetic()) {
                Checks.due("whether " + field + " is final", Modifier.isFinal(field.getModifiers()), true);
            }
        }
        Checks.due("whether " + one.getName() + " has at most some twenty fields", fields <= MOST_FIELDS, true);
    }

    /** No method beside the face bears the name of one of its methods, or has too many parameters. */
    private static void dueMethods(Class<?> one) {
        TreeSet<String> face = new TreeSet<>();
        for (Method method : TubHire.class.getDeclaredMethods()) {
            if (Modifier.isPublic(method.getModifiers())) {
                face.add(method.getName());
            }
        }
        face.addAll(Arrays.asList("equals", "hashCode", "toString"));
        for (Method method : one.getDeclaredMethods()) {
            boolean isOfFace = one == TubHire.class && Modifier.isPublic(method.getModifiers());
            Checks.due("whether " + method + " bears a name of the face", !isOfFace && face.contains(method.getName()), false);
            Checks.due("whether " + method + " has at most seven parameters",
                    method.getParameterCount() <= MOST_PARAMETERS, true);
        }
    }
}
