import java.lang.reflect.Constructor;
import java.lang.reflect.Method;
import java.lang.reflect.Modifier;
import java.util.Arrays;
import java.util.TreeSet;

/** The public face: these members, as the document declares them, and no others. */
final class FaceTest {
    private static final String INDEX = " IndexOutOfBoundsException";
    private static final String ARGUMENT = " IllegalArgumentException";
    private static final String STATE = " IllegalStateException";
    private static final String ELEMENT = " NoSuchElementException";

    private static final String[] FACE = {
        "int change(int, int, int)" + INDEX + ARGUMENT + STATE,
        "int addFact(int, int, int)" + INDEX + ARGUMENT + STATE,
        "int close(int, int)" + INDEX + ARGUMENT + ELEMENT + STATE,
        "int correct(int, int)" + INDEX,
        "int remove(int)" + INDEX + STATE,
        "int join(int)" + INDEX,
        "int clear()",
        "int versionCount()",
        "int versionsOf(int)" + INDEX,
        "int versionAt(int, int)" + INDEX + ELEMENT,
        "int validOn(int, int)" + INDEX + ARGUMENT + ELEMENT,
        "int nextAfter(int, int)" + INDEX + ARGUMENT + ELEMENT,
        "int version(int, int)" + INDEX + ARGUMENT,
        "boolean isInferred(int)" + INDEX,
        "int firstInferred()" + ELEMENT,
        "int inferredCount()",
        "int removedCount()",
        "int factCount()",
        "int fact(int, int)" + INDEX + ARGUMENT,
        "long amountOf(int)" + INDEX,
        "long amountFor(int, int)" + INDEX,
        "int pointedAnew()",
        "int gaps(int)" + INDEX,
        "int gapDay(int, int, boolean)" + INDEX + ELEMENT,
        "int gapDays()",
        "double coverage(int)" + INDEX + " ArithmeticException",
        "boolean isCovered(int, int, int)" + INDEX + ARGUMENT,
        "int stage(int, int, int)" + INDEX + ARGUMENT + STATE,
        "int staged()",
        "int nextRow(int)" + ARGUMENT + ELEMENT,
        "int loadRows(int)" + ARGUMENT + STATE,
        "int append(char)" + ARGUMENT + STATE,
        "int read()" + ARGUMENT + STATE,
        "int errorPosition()" + ELEMENT,
        "int save()",
        "int restore()" + STATE};

    public static void main(String[] args) {
        Class<?> face = DimensionLoader.class;
        Checks.sameText("class", Modifier.toString(face.getModifiers()), "public final");
        Checks.sameText("constructors", Arrays.toString(face.getDeclaredConstructors()), "[public DimensionLoader()]");
        TreeSet<String> got = new TreeSet<>();
        for (Method method : face.getDeclaredMethods()) {
            if (!Modifier.isPrivate(method.getModifiers())) {
                got.add(told(method));
            }
        }
        Checks.sameText("methods", String.join("\n", got), String.join("\n", new TreeSet<>(Arrays.asList(FACE))));
        Checks.same("fields that are not private", Arrays.stream(face.getDeclaredFields())
                .filter(field -> !Modifier.isPrivate(field.getModifiers())).count(), 0);
        for (Constructor<?> constructor : face.getConstructors()) {
            Checks.same("exceptions of the constructor", constructor.getExceptionTypes().length, 0);
        }
        Checks.end("FaceTest");
    }

    private static String told(Method method) {
        StringBuilder told = new StringBuilder(method.getReturnType().getName()).append(' ').append(method.getName());
        String parameters = Arrays.toString(method.getParameterTypes());
        told.append('(').append(parameters, 1, parameters.length() - 1).append(')');
        for (Class<?> thrown : method.getExceptionTypes()) {
            told.append(' ').append(thrown.getSimpleName());
        }
        return told.toString();
    }
}
