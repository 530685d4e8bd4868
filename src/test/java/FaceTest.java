import java.lang.reflect.Constructor;
import java.lang.reflect.Field;
import java.lang.reflect.Method;
import java.lang.reflect.Modifier;
import java.util.Arrays;
import java.util.Set;
import java.util.TreeSet;

/** The class's face is the document's, and it has no other member that is not private. */
public final class FaceTest {
    private static final String[] FACE = {
        "int setSort(int, int, int) IndexOutOfBoundsException IllegalArgumentException",
        "int setFrost(int, int) IndexOutOfBoundsException IllegalArgumentException",
        "int plant(int, int, int, int) IndexOutOfBoundsException IllegalArgumentException",
        "int prune(int, int, int) IndexOutOfBoundsException IllegalArgumentException",
        "int graft(int, int, int) IndexOutOfBoundsException IllegalArgumentException",
        "int fell(int, int) IndexOutOfBoundsException",
        "int tree(int, int, int) IndexOutOfBoundsException",
        "int sort(int, int) IndexOutOfBoundsException",
        "int count(int) IndexOutOfBoundsException",
        "int leans(int) IndexOutOfBoundsException",
        "int carry(int, int, int) IndexOutOfBoundsException IllegalArgumentException IllegalStateException",
        "int tilt()",
        "int balance()",
        "int pass(int) IllegalArgumentException",
        "int foresee(int, int) IllegalArgumentException IndexOutOfBoundsException",
        "int advise(int) IllegalArgumentException",
        "double mean()",
        "long digest()",
    };

    public static void main(String[] args) {
        Class<?> orchard = TwinOrchard.class;
        Due.same("the class is public and final", orchard.getModifiers(), Modifier.PUBLIC | Modifier.FINAL);
        methods(orchard);
        Constructor<?>[] made = orchard.getDeclaredConstructors();
        Due.same("constructors", made.length, 1);
        Due.same("its arguments", made[0].getParameterCount(), 0);
        Due.same("it is public", made[0].getModifiers(), Modifier.PUBLIC);
        fields(orchard);
        for (Class<?> inside : orchard.getDeclaredClasses()) {
            int modifiers = inside.getModifiers();
            boolean hidden = !Modifier.isPublic(modifiers) && !Modifier.isProtected(modifiers);
            Due.same(inside.getName() + " is hidden", hidden ? 1 : 0, 1);
            Due.same(inside.getName() + " is static", Modifier.isStatic(modifiers) ? 1 : 0, 1);
            fields(inside);
        }
        Due.end();
    }

    private static void methods(Class<?> orchard) {
        Set<String> due = new TreeSet<>(Arrays.asList(FACE));
        Set<String> names = new TreeSet<>();
        for (String line : FACE) {
            names.add(line.substring(line.indexOf(' ') + 1, line.indexOf('(')));
        }
        for (Method method : orchard.getDeclaredMethods()) {
            String told = told(method);
            if (Modifier.isPrivate(method.getModifiers())) {
                Due.same(told + " bears the name of a public one", names.contains(method.getName()) ? 1 : 0, 0);
            } else {
                Due.same(told + " is of the face", due.remove(told) ? 1 : 0, 1);
                Due.same(told + " is public alone", method.getModifiers(), Modifier.PUBLIC);
            }
        }
        Due.same("methods that are missing: " + due, due.size(), 0);
    }

    private static String told(Method method) {
        StringBuilder line = new StringBuilder();
        line.append(method.getReturnType()).append(' ').append(method.getName()).append('(');
        for (int i = 0; i < method.getParameterCount(); i++) {
            line.append(i == 0 ? "" : ", ").append(method.getParameterTypes()[i]);
        }
        line.append(')');
        for (Class<?> thrown : method.getExceptionTypes()) {
            line.append(' ').append(thrown.getSimpleName());
        }
        return line.toString();
    }

    private static void fields(Class<?> kind) {
        for (Field field : kind.getDeclaredFields()) {
            int modifiers = field.getModifiers();
            Due.same(field + " is private", Modifier.isPrivate(modifiers) ? 1 : 0, 1);
            boolean moving = Modifier.isStatic(modifiers) && !Modifier.isFinal(modifiers);
            Due.same(field + " is static and not final", moving ? 1 : 0, 0);
        }
    }
}
