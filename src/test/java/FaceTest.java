import java.io.IOException;
import java.lang.reflect.Constructor;
import java.lang.reflect.Executable;
import java.lang.reflect.Field;
import java.lang.reflect.Method;
import java.lang.reflect.Modifier;
import java.nio.file.Files;
import java.nio.file.Path;
import java.util.Arrays;
import java.util.Set;
import java.util.TreeSet;
import java.util.stream.Collectors;

/** The class has the face of the document, word for word, and nothing else that others could see. */
public final class FaceTest {
    public static void main(String[] args) throws IOException {
        Set<String> due = new TreeSet<>();
        boolean inside = false;
        for (String line : Files.readAllLines(Path.of("../shared/DOC.md"))) {
            if (line.startsWith("public final class")) {
                inside = true;
            } else if (inside && line.startsWith("}")) {
                break;
            } else if (inside) {
                due.add(line.trim());
            }
        }
        Check.same("lines of the face", due.size(), 7 + 1 + 64);
        Check.same("the face", face(), due);
        Check.same("public and final", Modifier.toString(IsingLab.class.getModifiers()), "public final");
        for (Class<?> inner : IsingLab.class.getDeclaredClasses()) {
            int is = inner.getModifiers();
            Check.same("static " + inner, Modifier.isStatic(is), true);
            Check.same("hidden " + inner, Modifier.isPublic(is) || Modifier.isProtected(is), false);
        }
        Check.end();
    }

    private static Set<String> face() throws IOException {
        Set<String> face = new TreeSet<>();
        for (Field f : IsingLab.class.getDeclaredFields()) {
            if (!Modifier.isPrivate(f.getModifiers())) {
                face.add(Modifier.toString(f.getModifiers()) + " " + f.getType() + " " + f.getName() + " = "
                        + value(f) + ";");
            }
        }
        for (Constructor<?> c : IsingLab.class.getDeclaredConstructors()) {
            face.add(Modifier.toString(c.getModifiers()) + " IsingLab(" + parameters(c) + ")" + exceptions(c) + ";");
        }
        for (Method m : IsingLab.class.getDeclaredMethods()) {
            if (!Modifier.isPrivate(m.getModifiers())) {
                face.add(Modifier.toString(m.getModifiers()) + " " + m.getReturnType() + " " + m.getName() + "("
                        + parameters(m) + ")" + exceptions(m) + ";");
            }
        }
        return face;
    }

    private static int value(Field f) {
        try {
            return f.getInt(null);
        } catch (IllegalAccessException e) {
            return Integer.MIN_VALUE;
        }
    }

    /** .ci/run compiles with -parameters, so that the names can be told. */
    private static String parameters(Executable e) {
        return Arrays.stream(e.getParameters()).map(p -> p.getType() + " " + p.getName())
                .collect(Collectors.joining(", "));
    }

    private static String exceptions(Executable e) {
        String names = Arrays.stream(e.getExceptionTypes()).map(Class::getSimpleName)
                .collect(Collectors.joining(", "));
        return names.isEmpty() ? "" : " throws " + names;
    }
}
