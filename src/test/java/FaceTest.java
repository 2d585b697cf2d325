import java.lang.reflect.Constructor;
import java.lang.reflect.Field;
import java.lang.reflect.Method;
import java.lang.reflect.Modifier;
import java.util.TreeSet;

/** The public face is the document's, and nothing more is to be seen. */
public final class FaceTest {
    private static final String[] METHODS = {
        "int count(int)",
        "int end(int) IllegalArgumentException",
        "int fault(int) IllegalArgumentException",
        "int feed(int,int,int,int,int) IllegalStateException",
        "int mark() UnsupportedOperationException",
        "int name(int) IllegalArgumentException,UnsupportedOperationException",
        "int result(int) IndexOutOfBoundsException",
        "int set(int) IllegalArgumentException,UnsupportedOperationException",
        "int write(int) IllegalArgumentException",
        "void groups(int) IllegalArgumentException",
        "void unset(int) IllegalArgumentException",
    };

    public static void main(String[] args) {
        Class<?> face = ReplacementWriter.class;
        Check.same("public", Modifier.isPublic(face.getModifiers()) ? 1 : 0, 1);
        Check.same("final", Modifier.isFinal(face.getModifiers()) ? 1 : 0, 1);
        Check.sameText("methods", visibleMethods(face).toString(), new TreeSet<>(java.util.List.of(METHODS)).toString());
        for (Constructor<?> constructor : face.getDeclaredConstructors()) {
            Check.sameText("constructor", constructor.toString(), "public ReplacementWriter(int)");
        }
        for (Field field : face.getDeclaredFields()) {
            Check.same("private " + field, Modifier.isPrivate(field.getModifiers()) ? 1 : 0, 1);
        }
        for (Class<?> inside : face.getDeclaredClasses()) {
            Check.same("static " + inside, Modifier.isStatic(inside.getModifiers()) ? 1 : 0, 1);
            Check.same("hidden " + inside, inside.getModifiers() & (Modifier.PUBLIC | Modifier.PROTECTED), 0);
        }
        Check.finish();
    }

    private static TreeSet<String> visibleMethods(Class<?> face) {
        TreeSet<String> found = new TreeSet<>();
        for (Method method : face.getDeclaredMethods()) {
            if (!Modifier.isPrivate(method.getModifiers()) && !method.isSynthetic()) {
                String thrown = join(method.getExceptionTypes());
                found.add(method.getReturnType() + " " + method.getName() + "(" + join(method.getParameterTypes()) + ")"
                    + (thrown.isEmpty() ? "" : " " + thrown));
            }
        }
        return found;
    }

    private static String join(Class<?>[] types) {
        StringBuilder joined = new StringBuilder();
        for (Class<?> type : types) {
            joined.append(joined.length() == 0 ? "" : ",").append(type.getSimpleName());
        }
        return joined.toString();
    }
}
