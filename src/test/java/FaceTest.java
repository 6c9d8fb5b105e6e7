import java.lang.reflect.Constructor;
import java.lang.reflect.Field;
import java.lang.reflect.Method;
import java.lang.reflect.Modifier;
import java.nio.file.Files;
import java.nio.file.Path;
import java.util.ArrayList;
import java.util.List;
import java.util.TreeSet;

/** The face of the class is that of the document, with nothing left out and nothing besides it. */
public final class FaceTest {
    public static void main(String[] args) throws Exception {
        Check.in("face");
        TreeSet<String> due = new TreeSet<>();
        for (String line : Files.readAllLines(Path.of("../shared/DOC.md"))) {
            if (line.startsWith("    public ") && line.endsWith(";")) {
                due.add(line.substring(11, line.length() - 1).replaceAll("(int|char|boolean) [a-z]\\w*([,)])", "$1$2"));
            }
        }
        Check.is(36, due.size());
        TreeSet<String> got = new TreeSet<>();
        for (Method method : CanalMaps.class.getDeclaredMethods()) {
            if (Modifier.isPublic(method.getModifiers())) {
                got.add(method.getReturnType().getSimpleName() + " " + method.getName()
                        + signature(method.getParameterTypes(), method.getExceptionTypes()));
            }
        }
        for (Constructor<?> constructor : CanalMaps.class.getDeclaredConstructors()) {
            got.add("CanalMaps" + signature(constructor.getParameterTypes(), constructor.getExceptionTypes()));
        }
        Check.is(due, got);
        Check.is(Modifier.PUBLIC | Modifier.FINAL, CanalMaps.class.getModifiers());
        nothingBesides();
        Check.end();
    }

    private static String signature(Class<?>[] arguments, Class<?>[] exceptions) {
        return "(" + names(arguments) + ")" + (exceptions.length > 0 ? " throws " + names(exceptions) : "");
    }

    private static String names(Class<?>[] types) {
        List<String> names = new ArrayList<>();
        for (Class<?> type : types) {
            names.add(type.getSimpleName());
        }
        return String.join(", ", names);
    }

    private static void nothingBesides() {
        for (Field field : CanalMaps.class.getDeclaredFields()) {
            int modifiers = field.getModifiers();
            Check.isTrue(Modifier.isPrivate(modifiers), field + " is not private");
            Check.isTrue(!Modifier.isStatic(modifiers) || Modifier.isFinal(modifiers), field + " can be changed");
        }
        TreeSet<String> open = new TreeSet<>();
        TreeSet<String> hidden = new TreeSet<>();
        for (Method method : CanalMaps.class.getDeclaredMethods()) {
            boolean isPublic = Modifier.isPublic(method.getModifiers());
            (isPublic ? open : hidden).add(method.getName());
            Check.isTrue(isPublic || Modifier.isPrivate(method.getModifiers()), method + " is not private");
        }
        for (Class<?> inside : CanalMaps.class.getDeclaredClasses()) {
            Check.isTrue(Modifier.isPrivate(inside.getModifiers()) && Modifier.isStatic(inside.getModifiers()),
                    inside + " is not private and static");
            for (Method method : inside.getDeclaredMethods()) {
                hidden.add(method.getName());
            }
        }
        Check.is(35, open.size());
        hidden.retainAll(open);
        Check.is(new TreeSet<String>(), hidden);
    }
}
