import java.lang.reflect.Constructor;
import java.lang.reflect.Field;
import java.lang.reflect.Method;
import java.lang.reflect.Modifier;
import java.util.TreeSet;

/** The class shows just what the document shows, exceptions included. */
public final class FaceTest {
    private static final String[] FACE = {
        "Coppertrace()",
        "int addPart(int, int, boolean) IllegalArgumentException IllegalStateException",
        "char setKind(int, char) IndexOutOfBoundsException IllegalArgumentException",
        "boolean setWire(int, int, boolean) IndexOutOfBoundsException IllegalArgumentException",
        "char setName(int, char) IndexOutOfBoundsException IllegalArgumentException",
        "int netOf(int) IndexOutOfBoundsException",
        "int nets()",
        "char netState(int) IndexOutOfBoundsException",
        "int swap(int, int) IndexOutOfBoundsException IllegalArgumentException",
        "int place(int, int, int, int) IndexOutOfBoundsException IllegalArgumentException"
            + " UnsupportedOperationException",
        "boolean lift(int) IndexOutOfBoundsException",
        "int setGap(int, int) IndexOutOfBoundsException IllegalArgumentException",
        "int track(int, int, int, int, int, boolean) IndexOutOfBoundsException IllegalArgumentException"
            + " IllegalStateException UnsupportedOperationException",
        "int via(int, int, int) IndexOutOfBoundsException IllegalArgumentException IllegalStateException"
            + " UnsupportedOperationException",
        "boolean erase(int) IndexOutOfBoundsException",
        "boolean setLocked(int, boolean) IndexOutOfBoundsException IllegalStateException",
        "int pour(int, int, int, int, int, int) IndexOutOfBoundsException IllegalArgumentException"
            + " IllegalStateException",
        "int route(int, int) IndexOutOfBoundsException IllegalArgumentException IllegalStateException"
            + " UnsupportedOperationException NoSuchElementException",
        "int routeAll(int) IllegalArgumentException",
        "int price(int) IndexOutOfBoundsException",
        "int ripped()",
        "int items()",
        "char kindOf(int) IndexOutOfBoundsException",
        "int cellOf(int, int) IndexOutOfBoundsException NoSuchElementException",
        "int netAt(int) IndexOutOfBoundsException NoSuchElementException",
        "int poured(int) IndexOutOfBoundsException",
        "int islands(int) IndexOutOfBoundsException",
        "boolean areJoined(int, int) IndexOutOfBoundsException",
        "boolean areJoinedByPaint(int, int) IndexOutOfBoundsException",
        "int opens(int) IndexOutOfBoundsException",
        "int shorts()",
        "int gaps()",
        "int airLength()",
        "int path(int, int) IndexOutOfBoundsException NoSuchElementException UnsupportedOperationException",
        "int drillWay() UnsupportedOperationException",
        "long trackLength()",
        "float joinedShare() ArithmeticException",
        "double meanPins() ArithmeticException",
        "boolean isAsDrawn()",
        "boolean isConsistent()",
    };

    public static void main(String[] args) {
        Check check = new Check("FaceTest");
        TreeSet<String> shown = new TreeSet<>();
        for (Method method : Coppertrace.class.getDeclaredMethods()) {
            if (Modifier.isPublic(method.getModifiers())) {
                shown.add(method.getReturnType().getName() + " " + told(method.getName(),
                        method.getParameterTypes(), method.getExceptionTypes()));
            } else {
                check.same("privacy of " + method.getName(), isHidden(method.getModifiers(), method.isSynthetic()), true);
                check.same("a private method bears a public name: " + method.getName(), isPublicName(method.getName()), false);
            }
        }
        for (Constructor<?> made : Coppertrace.class.getDeclaredConstructors()) {
            shown.add(told("Coppertrace", made.getParameterTypes(), made.getExceptionTypes()));
        }
        for (Field field : Coppertrace.class.getDeclaredFields()) {
            check.same("privacy of " + field.getName(), isHidden(field.getModifiers(), field.isSynthetic()), true);
        }
        check.same("the face", shown.toString(), new TreeSet<>(java.util.List.of(FACE)).toString());
        check.same("the class is public and final", Coppertrace.class.getModifiers() & (Modifier.PUBLIC | Modifier.FINAL),
                Modifier.PUBLIC | Modifier.FINAL);
        System.exit(check.end());
    }

    private static boolean isHidden(int modifiers, boolean isSynthetic) {
        return isSynthetic || Modifier.isPrivate(modifiers);
    }

    private static boolean isPublicName(String name) {
        for (Method method : Coppertrace.class.getMethods()) {
            if (method.getDeclaringClass() == Coppertrace.class && method.getName().equals(name)) {
                return true;
            }
        }
        return false;
    }

    private static String told(String name, Class<?>[] parameters, Class<?>[] exceptions) {
        StringBuilder all = new StringBuilder(name).append('(');
        for (Class<?> parameter : parameters) {
            all.append(all.charAt(all.length() - 1) == '(' ? "" : ", ").append(parameter.getName());
        }
        all.append(')');
        for (Class<?> exception : exceptions) {
            all.append(' ').append(exception.getSimpleName());
        }
        return all.toString();
    }
}
