import java.io.IOException;
import java.lang.reflect.Constructor;
import java.lang.reflect.Executable;
import java.lang.reflect.Field;
import java.lang.reflect.Method;
import java.lang.reflect.Modifier;
import java.lang.reflect.Parameter;
import java.nio.file.Files;
import java.nio.file.Path;
import java.util.ArrayList;
import java.util.List;
import java.util.Set;
import java.util.TreeSet;

/**
 * The class's face is that of the document's code block, and it has no other member that is not
 * private. The names of parameters are asked for too, so it is compiled with -parameters.
 */
public final class FaceTest {
    private static final Path DOCUMENT = Path.of("../shared/DOC.md");
    private static final int CONSTRUCTOR_AND_METHODS = 19;

    public static void main(String[] args) throws IOException {
        Class<?> orchard = TwinOrchard.class;
        List<String> block = codeBlock();
        Due.sentence("The public face", "public final class TwinOrchard {");
        Due.same("the document's class line", block.indexOf("public final class TwinOrchard {"), 0);
        Due.same("the class is public and final", orchard.getModifiers(), Modifier.PUBLIC | Modifier.FINAL);
        Due.same("it extends Object alone", orchard.getSuperclass() == Object.class ? 1 : 0, 1);
        Due.same("it implements nothing", orchard.getInterfaces().length, 0);
        members(orchard, block);
        fields(orchard);
        inside(orchard);
        Due.end();
    }

    /** The lines of the document's code block, trimmed. */
    private static List<String> codeBlock() throws IOException {
        List<String> block = new ArrayList<>();
        boolean within = false;
        for (String line : Files.readAllLines(DOCUMENT)) {
            if (line.startsWith("```")) {
                if (within) {
                    break;
                }
                within = line.equals("```java");
            } else if (within) {
                block.add(line.trim());
            }
        }
        return block;
    }

    private static void members(Class<?> orchard, List<String> block) {
        Set<String> due = new TreeSet<>();
        Set<String> names = new TreeSet<>();
        for (String line : block) {
            if (line.endsWith(";")) {
                due.add(line);
                String before = line.substring(0, line.indexOf('('));
                names.add(before.substring(before.lastIndexOf(' ') + 1));
            }
        }
        Due.same("constructor and methods of the document", due.size(), CONSTRUCTOR_AND_METHODS);
        for (Constructor<?> constructor : orchard.getDeclaredConstructors()) {
            ofTheFace(constructor, "TwinOrchard", due);
        }
        for (Method method : orchard.getDeclaredMethods()) {
            if (Modifier.isPrivate(method.getModifiers())) {
                Due.same(method + " bears the name of a public one", names.contains(method.getName()) ? 1 : 0, 0);
            } else {
                ofTheFace(method, method.getReturnType() + " " + method.getName(), due);
            }
        }
        Due.same("members that are missing: " + due, due.size(), 0);
    }

    private static void ofTheFace(Executable member, String name, Set<String> due) {
        String told = told(member, name);
        Due.same(told + " is of the face", due.remove(told) ? 1 : 0, 1);
        Due.same(told + " is public alone", member.getModifiers(), Modifier.PUBLIC);
    }

    /** The member as the document's code block would have it. */
    private static String told(Executable member, String name) {
        StringBuilder line = new StringBuilder("public ").append(name).append('(');
        String between = "";
        for (Parameter parameter : member.getParameters()) {
            line.append(between).append(parameter.getType()).append(' ').append(parameter.getName());
            between = ", ";
        }
        line.append(')');
        between = " throws ";
        for (Class<?> thrown : member.getExceptionTypes()) {
            line.append(between).append(thrown.getSimpleName());
            between = ", ";
        }
        return line.append(';').toString();
    }

    private static void inside(Class<?> orchard) {
        for (Class<?> inside : orchard.getDeclaredClasses()) {
            int modifiers = inside.getModifiers();
            boolean hidden = !Modifier.isPublic(modifiers) && !Modifier.isProtected(modifiers);
            Due.same(inside.getName() + " is hidden", hidden ? 1 : 0, 1);
            Due.same(inside.getName() + " is static", Modifier.isStatic(modifiers) ? 1 : 0, 1);
            fields(inside);
        }
    }

    private static void fields(Class<?> kind) {
        for (Field field : kind.getDeclaredFields()) {
            int modifiers = field.getModifiers();
            Due.same(field + " is private", Modifier.isPrivate(modifiers) ? 1 : 0, 1);
            boolean moving = Modifier.isStatic(modifiers) && !Modifier.isFinal(modifiers);
            Due.same(field + " is static and not final", moving ? 1 : 0, 0);
        }
    }
}
