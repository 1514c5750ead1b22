import java.lang.reflect.Constructor;
import java.lang.reflect.Field;
import java.lang.reflect.Method;
import java.lang.reflect.Modifier;
import java.util.List;
import java.util.Set;
import java.util.TreeSet;

/** The public face: its names and types, and no other member that is not private. */
public final class FaceTest {
    public static void main(String[] args) {
        Checks checks = new Checks();
        checks.due("NONE", TextRows.NONE, -1);
        checks.due("final", Modifier.isFinal(TextRows.class.getModifiers()), true);
        checks.due("public class", Modifier.isPublic(TextRows.class.getModifiers()), true);

        Set<String> want = new TreeSet<>(List.of(
                "public boolean TextRows.feed(int,int,int,int,int)",
                "public boolean TextRows.end(int)",
                "public boolean TextRows.add(int)",
                "public void TextRows.clear()",
                "public int TextRows.write(int)",
                "public int TextRows.read(int,int)",
                "public boolean TextRows.turn()",
                "public int TextRows.size()",
                "public int TextRows.length(int)",
                "public int TextRows.byteOf(int,int)",
                "public int TextRows.output(int)"));
        Set<String> got = new TreeSet<>();
        Set<String> names = new TreeSet<>();
        for (Method method : TextRows.class.getDeclaredMethods()) {
            if (!Modifier.isPrivate(method.getModifiers())) {
                got.add(method.toString());
                names.add(method.getName());
            }
        }
        checks.due("methods are " + got, got.equals(want), true);
        for (Method method : TextRows.class.getDeclaredMethods()) {
            boolean isPrivate = Modifier.isPrivate(method.getModifiers());
            checks.due(method + " bears a public name", isPrivate && names.contains(method.getName()), false);
        }

        Set<String> fields = new TreeSet<>();
        for (Field field : TextRows.class.getDeclaredFields()) {
            if (!Modifier.isPrivate(field.getModifiers())) {
                fields.add(field.toString());
            }
        }
        checks.due("fields are " + fields, fields.equals(Set.of("public static final int TextRows.NONE")), true);

        Constructor<?>[] constructors = TextRows.class.getDeclaredConstructors();
        checks.due("constructors", constructors.length, 1);
        checks.due("its parameters", constructors[0].getParameterCount(), 0);
        checks.due("public", Modifier.isPublic(constructors[0].getModifiers()), true);
        for (Class<?> inside : TextRows.class.getDeclaredClasses()) {
            checks.due(inside + " static", Modifier.isStatic(inside.getModifiers()), true);
            for (Method method : inside.getDeclaredMethods()) {
                checks.due(method + " bears a public name", names.contains(method.getName()), false);
            }
        }
        checks.finish();
    }
}
