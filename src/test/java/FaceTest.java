import java.lang.reflect.Constructor;
import java.lang.reflect.Field;
import java.lang.reflect.Member;
import java.lang.reflect.Method;
import java.lang.reflect.Modifier;
import java.util.Arrays;
import java.util.Set;
import java.util.TreeSet;

/** The class's face: all that the document has, and nothing else that can be seen. */
public final class FaceTest {
    private static final String STATE = " IllegalStateException";
    private static final String ARGUMENT = " IllegalArgumentException";
    private static final String INDEX = " IndexOutOfBoundsException";

    public static void main(String[] args) {
        Set<String> due = new TreeSet<>(Set.of(
                "int feed(int int int int int)" + STATE, "void end(int)" + ARGUMENT,
                "int alter(int int)" + INDEX + ARGUMENT, "int copy()" + STATE, "int pack(int)" + ARGUMENT,
                "int unpack(int)" + ARGUMENT, "int place()", "int length()", "int size()", "int out(int)" + INDEX,
                "int piece(int int)" + ARGUMENT, "int about(int)" + ARGUMENT));
        Set<String> got = new TreeSet<>();
        for (Method method : RotationPress.class.getDeclaredMethods()) {
            if (seen(method)) {
                got.add(method.getReturnType() + " " + method.getName() + names(method.getParameterTypes())
                        + thrown(method));
            }
        }
        Due.same("the methods are " + got + ", due are " + due + ": ", got.equals(due) ? 1 : 0, 1);
        int modifiers = RotationPress.class.getModifiers();
        Due.same("public and final", modifiers & (Modifier.PUBLIC | Modifier.FINAL), Modifier.PUBLIC | Modifier.FINAL);
        Constructor<?>[] makers = RotationPress.class.getDeclaredConstructors();
        Due.same("constructors", makers.length, 1);
        Due.same("the constructor's modifiers", makers[0].getModifiers(), Modifier.PUBLIC);
        for (Field field : RotationPress.class.getDeclaredFields()) {
            Due.same(field + " seen", seen(field) ? 1 : 0, field.getName().equals("NONE") ? 1 : 0);
            if (Modifier.isStatic(field.getModifiers())) {
                Due.same(field + " final", Modifier.isFinal(field.getModifiers()) ? 1 : 0, 1);
            }
        }
        for (Class<?> inside : RotationPress.class.getDeclaredClasses()) {
            Due.same(inside + " static", Modifier.isStatic(inside.getModifiers()) ? 1 : 0, 1);
            Due.same(inside + " public or protected", inside.getModifiers() & (Modifier.PUBLIC | Modifier.PROTECTED), 0);
        }
        Due.same("NONE", RotationPress.NONE, -1);
        Due.finish();
    }

    private static boolean seen(Member member) {
        return !Modifier.isPrivate(member.getModifiers());
    }

    private static String names(Class<?>[] types) {
        return Arrays.toString(types).replace("[", "(").replace("]", ")").replace(",", "");
    }

    private static String thrown(Method method) {
        StringBuilder text = new StringBuilder();
        for (Class<?> kind : method.getExceptionTypes()) {
            text.append(' ').append(kind.getSimpleName());
        }
        return text.toString();
    }
}
