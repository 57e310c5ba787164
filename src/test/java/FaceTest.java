import java.lang.reflect.Constructor;
import java.lang.reflect.Field;
import java.lang.reflect.Method;
import java.lang.reflect.Modifier;
import java.util.Arrays;
import java.util.List;
import java.util.TreeSet;

/** The class has the document's face, and nothing else of it can be seen. */
public final class FaceTest {
    private static final List<String> FACE = List.of(
        "int submit [int, int, int, int] [IndexOutOfBoundsException, IllegalStateException]",
        "boolean deliver [int, int] [IndexOutOfBoundsException]",
        "int pump [int, int] [IndexOutOfBoundsException, IllegalStateException]",
        "boolean tick [int] [IndexOutOfBoundsException]",
        "boolean crash [int] [IndexOutOfBoundsException]",
        "boolean restart [int] [IndexOutOfBoundsException]",
        "boolean cut [int, int] [IndexOutOfBoundsException]",
        "boolean corrupt [int] [IndexOutOfBoundsException]",
        "int forge [int, int, int, int] []",
        "int send [int, int] []",
        "int message [int, int] []",
        "int vertex [int, int] []",
        "int node [int, int] [IndexOutOfBoundsException]",
        "int dag [int, int, int] [IndexOutOfBoundsException]",
        "int at [int, int] [IndexOutOfBoundsException]",
        "int balance [int, int] [IndexOutOfBoundsException]");

    public static void main(String[] args) {
        TreeSet<String> due = new TreeSet<>(FACE);
        TreeSet<String> seen = new TreeSet<>();
        TreeSet<String> publicNames = new TreeSet<>();
        for (Method method : DagLedger.class.getDeclaredMethods()) {
            if (!Modifier.isPrivate(method.getModifiers())) {
                seen.add(told(method));
                publicNames.add(method.getName());
                Check.yes(method + " is public", Modifier.isPublic(method.getModifiers()));
                Check.no(method + " is static", Modifier.isStatic(method.getModifiers()));
            }
        }
        if (!seen.equals(due)) {
            Check.tell("the face is " + seen + ", due is " + due);
        }
        lookAtRest(publicNames);
        Check.end();
    }

    private static String told(Method method) {
        return method.getReturnType() + " " + method.getName() + " "
            + names(method.getParameterTypes()) + " " + names(method.getExceptionTypes());
    }

    private static String names(Class<?>[] types) {
        return Arrays.toString(Arrays.stream(types).map(Class::getSimpleName).toArray());
    }

    private static void lookAtRest(TreeSet<String> publicNames) {
        Check.yes("the class is final", Modifier.isFinal(DagLedger.class.getModifiers()));
        Check.yes("the class is public", Modifier.isPublic(DagLedger.class.getModifiers()));
        Constructor<?>[] constructors = DagLedger.class.getDeclaredConstructors();
        Check.due("constructors", constructors.length, 1);
        Check.due("parameters of the constructor", constructors[0].getParameterCount(), 0);
        Check.yes("the constructor is public", Modifier.isPublic(constructors[0].getModifiers()));
        for (Field field : DagLedger.class.getDeclaredFields()) {
            Check.yes(field + " is private", Modifier.isPrivate(field.getModifiers()));
        }
        for (Class<?> inside : DagLedger.class.getDeclaredClasses()) {
            Check.yes(inside + " is static", Modifier.isStatic(inside.getModifiers()));
            Check.no(inside + " is public", Modifier.isPublic(inside.getModifiers()));
        }
        for (Method method : DagLedger.class.getDeclaredMethods()) {
            if (Modifier.isPrivate(method.getModifiers())) {
                Check.no(method + " bears the name of a public one", publicNames.contains(method.getName()));
            }
        }
    }
}
