import java.lang.reflect.Constructor;
import java.lang.reflect.Executable;
import java.lang.reflect.Method;
import java.lang.reflect.Modifier;
import java.util.Arrays;
import java.util.TreeSet;

/** The public face of the document, and nothing beside it. */
public final class FaceTest {
    private static final String[] FACE = {
        "TubHire()",
        "int tub(int) IllegalArgumentException UnsupportedOperationException",
        "int tubOf(int, int) IndexOutOfBoundsException IllegalArgumentException",
        "int torn(int, int) IndexOutOfBoundsException NoSuchElementException",
        "int tear(int, int) IndexOutOfBoundsException",
        "int mend(int, int) IndexOutOfBoundsException UnsupportedOperationException",
        "int bestTub() NoSuchElementException",
        "int out(int, int) IndexOutOfBoundsException UnsupportedOperationException",
        "int back(int) IndexOutOfBoundsException UnsupportedOperationException",
        "int tent(int) IllegalArgumentException UnsupportedOperationException",
        "int tentOf(int, int) IndexOutOfBoundsException IllegalArgumentException",
        "int waiting(int, int) IndexOutOfBoundsException NoSuchElementException",
        "int join(int) IndexOutOfBoundsException UnsupportedOperationException",
        "int heater() UnsupportedOperationException",
        "int heaterOf(int, boolean) IndexOutOfBoundsException",
        "int heat(int, int) IndexOutOfBoundsException UnsupportedOperationException",
        "int cold(int) IndexOutOfBoundsException UnsupportedOperationException",
        "int gas(int, int) IndexOutOfBoundsException IllegalArgumentException UnsupportedOperationException",
        "int wash(int) IllegalArgumentException UnsupportedOperationException",
        "int soap(int) IllegalArgumentException UnsupportedOperationException",
        "int pass(int) IllegalArgumentException",
        "int heatsIn(int, int) IllegalArgumentException",
        "int heatsAgain(int, int) IllegalArgumentException",
        "int bathesIn(int) NoSuchElementException",
        "int line(int) IndexOutOfBoundsException",
        "char character(int) IndexOutOfBoundsException",
        "int number(int) IllegalArgumentException",
        "int towels()",
        "double meanWarmth() ArithmeticException",
        "float bathedShare() ArithmeticException",
        "int feed(char) IllegalStateException",
        "int read() IllegalArgumentException UnsupportedOperationException",
        "int faultPosition() NoSuchElementException",
        "int refusal(boolean) NoSuchElementException",
        "int undo() IllegalStateException",
        "int saveSnapshot()",
        "int restoreSnapshot() IllegalStateException",
    };

    public static void main(String[] args) {
        int modifiers = TubHire.class.getModifiers();
        Checks.due("whether the class is public and final",
                Modifier.isPublic(modifiers) && Modifier.isFinal(modifiers), true);
        TreeSet<String> found = new TreeSet<>();
        for (Constructor<?> made : TubHire.class.getDeclaredConstructors()) {
            if (!Modifier.isPrivate(made.getModifiers()) && !made.isSynthetic()) {
                found.add("TubHire" + told(made));
            }
        }
        for (Method method : TubHire.class.getDeclaredMethods()) {
            if (!Modifier.isPrivate(method.getModifiers()) && !method.isSynthetic()) {
                found.add(method.getReturnType().getSimpleName() + " " + method.getName() + told(method));
            }
        }
        Checks.due("the face", found, new TreeSet<>(Arrays.asList(FACE)));
        long open = Arrays.stream(TubHire.class.getDeclaredFields())
                .filter(field -> !Modifier.isPrivate(field.getModifiers())).count();
        Checks.due("the fields that are not private", open, 0L);
        Checks.end();
    }

    private static String told(Executable call) {
        StringBuilder told = new StringBuilder("(");
        for (Class<?> type : call.getParameterTypes()) {
            told.append(told.length() > 1 ? ", " : "").append(type.getSimpleName());
        }
        told.append(')');
        for (Class<?> type : call.getExceptionTypes()) {
            told.append(' ').append(type.getSimpleName());
        }
        return told.toString();
    }
}
