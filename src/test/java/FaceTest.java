import java.lang.reflect.Constructor;
import java.lang.reflect.Field;
import java.lang.reflect.Method;
import java.lang.reflect.Modifier;
import java.util.Map;
import java.util.TreeMap;
import java.util.TreeSet;

/** The public face: its names and types, and no other member that is not private. */
public final class FaceTest {
    public static void main(String[] args) {
        Checks checks = new Checks();
        checks.due("NONE", TextRows.NONE, -1);
        checks.due("final", Modifier.isFinal(TextRows.class.getModifiers()), true);

        Map<String, String> want = new TreeMap<>();
        want.put("feed", "boolean 5");
        want.put("end", "boolean 1");
        want.put("add", "boolean 1");
        want.put("clear", "void 0");
        want.put("write", "int 1");
        want.put("read", "int 2");
        want.put("turn", "boolean 0");
        want.put("size", "int 0");
        want.put("length", "int 1");
        want.put("byteOf", "int 2");
        want.put("output", "int 1");
        Map<String, String> got = new TreeMap<>();
        for (Method method : TextRows.class.getDeclaredMethods()) {
            if (!Modifier.isPrivate(method.getModifiers())) {
                got.put(method.getName(), method.getReturnType() + " " + method.getParameterCount());
            }
        }
        checks.due("methods are " + got, got.equals(want), true);

        TreeSet<String> fields = new TreeSet<>();
        for (Field field : TextRows.class.getDeclaredFields()) {
            if (!Modifier.isPrivate(field.getModifiers())) {
                fields.add(field.getName());
            }
        }
        checks.due("fields are " + fields, fields.toString().equals("[NONE]"), true);

        Constructor<?>[] constructors = TextRows.class.getDeclaredConstructors();
        checks.due("constructors", constructors.length, 1);
        checks.due("its parameters", constructors[0].getParameterCount(), 0);
        checks.due("public", Modifier.isPublic(constructors[0].getModifiers()), true);
        for (Class<?> inside : TextRows.class.getDeclaredClasses()) {
            checks.due(inside + " static", Modifier.isStatic(inside.getModifiers()), true);
            for (Method method : inside.getDeclaredMethods()) {
                checks.due(method + " bears a public name", want.containsKey(method.getName()), false);
            }
        }
        checks.finish();
    }
}
