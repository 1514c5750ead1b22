import java.io.IOException;
import java.lang.reflect.Field;
import java.lang.reflect.Method;
import java.lang.reflect.Modifier;
import java.nio.file.Files;
import java.nio.file.Path;
import java.util.ArrayList;
import java.util.List;
import java.util.Set;
import java.util.regex.Matcher;
import java.util.regex.Pattern;

/** Those rules of LANGUAGE.md that a look at the class's text and members can tell. */
public final class RulesTest {
    private static final Checks CHECKS = new Checks();
    private static final Set<String> LIBRARY =
            Set.of("Math.max", "Math.min", "System.arraycopy", "Long.MAX_VALUE");
    private static final String[] FORBIDDEN = {"import", "package", "try", "catch", "throw", "finally",
        "synchronized", "assert", "double", "float", "native", "transient", "volatile", "Object", "var"};

    public static void main(String[] args) throws IOException {
        String source = Files.readString(Path.of("src/main/java/TextRows.java"));
        String code = source.replaceAll("(?s)/\\*.*?\\*/", "").replaceAll("//.*", "");
        wordsAreAllowed(code);
        libraryIsAllowed(code);
        methodsAreShortAndMakeNothing(code);
        membersAreFew();
        CHECKS.finish();
    }

    /** Rules 2, 3, 6: the class needs none of these at all. */
    private static void wordsAreAllowed(String code) {
        for (String word : FORBIDDEN) {
            CHECKS.due("has " + word, Pattern.compile("\\b" + word + "\\b").matcher(code).find(), false);
        }
        CHECKS.due("has a lambda", code.contains("->"), false);
        CHECKS.due("has a method reference", code.contains("::"), false);
        CHECKS.due("has a static block", Pattern.compile("\\bstatic\\s*\\{").matcher(code).find(), false);
    }

    /** Rule 4. */
    private static void libraryIsAllowed(String code) {
        Matcher use = Pattern.compile("\\b[A-Z][a-z]\\w*\\.\\w+").matcher(code);
        while (use.find()) {
            CHECKS.due("uses " + use.group(), LIBRARY.contains(use.group()), true);
        }
    }

    /** Rule 11: some sixty lines; and for the one room of a run, nothing made but by constructors. */
    private static void methodsAreShortAndMakeNothing(String code) {
        int opened = 0;
        int lines = 0;
        boolean isInside = false;
        boolean isConstructor = false;
        for (String line : code.lines().toList()) {
            if (!isInside && line.matches(" {4,8}[\\w\\[\\] ]+\\(.*\\) \\{")) {
                isInside = true;
                isConstructor = line.matches(" *(public )?[A-Z]\\w*\\(.*");
                opened = line.indexOf(line.trim());
                lines = 0;
            }
            lines++;
            boolean isMaking = isInside && !isConstructor && line.matches(".*\\bnew\\b.*");
            CHECKS.due("makes an object: " + line, isMaking, false);
            if (isInside && line.equals(" ".repeat(opened) + "}")) {
                isInside = false;
                CHECKS.due("a method of " + lines + " lines", lines <= 40, true);
            }
        }
        CHECKS.due("ends inside a method", isInside, false);
    }

    /** Rules 1, 2, 5 and 11. */
    private static void membersAreFew() {
        List<Class<?>> all = new ArrayList<>(List.of(TextRows.class.getDeclaredClasses()));
        all.add(TextRows.class);
        CHECKS.due(all.size() + " classes", all.size() <= 12, true);
        for (Class<?> one : all) {
            int fields = 0;
            for (Field field : one.getDeclaredFields()) {
                boolean isStatic = Modifier.isStatic(field.getModifiers());
                CHECKS.due(field + " final", isStatic && !Modifier.isFinal(field.getModifiers()), false);
                fields += isStatic ? 0 : 1;
            }
            CHECKS.due(fields + " fields in " + one, fields <= 20, true);
            CHECKS.due("classes inside " + one, one == TextRows.class || one.getDeclaredClasses().length == 0, true);
            for (Method method : one.getDeclaredMethods()) {
                CHECKS.due("parameters of " + method, method.getParameterCount() <= 7, true);
            }
        }
    }
}
