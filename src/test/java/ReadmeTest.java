import java.io.IOException;
import java.lang.reflect.Method;
import java.nio.file.Files;
import java.nio.file.Path;
import java.util.ArrayList;
import java.util.List;
import java.util.regex.Matcher;
import java.util.regex.Pattern;

/** README.md's calls answer what stands behind them there, and it names each call and each test. */
public final class ReadmeTest {
    private static final Pattern CALL = Pattern.compile("rows\\.(\\w+)\\(([^)]*)\\); *// ([^:]*)(:.*)?");
    private static final Checks CHECKS = new Checks();

    public static void main(String[] args) throws IOException, ReflectiveOperationException {
        String readme = Files.readString(Path.of("README.md"));
        answersAreAsTold(exampleOf(readme));
        allCallsAreNamed(readme);
        allTestsAreNamed(readme);
        CHECKS.finish();
    }

    private static List<String> exampleOf(String readme) {
        int start = readme.indexOf("```java\n") + "```java\n".length();
        return readme.substring(start, readme.indexOf("```\n", start)).lines().toList();
    }

    private static void answersAreAsTold(List<String> lines) throws ReflectiveOperationException {
        TextRows rows = new TextRows();
        List<String> called = new ArrayList<>();
        CHECKS.due("first line: " + lines.get(0), lines.get(0).equals("TextRows rows = new TextRows();"), true);
        for (String line : lines.subList(1, lines.size())) {
            Matcher call = CALL.matcher(line);
            boolean isCall = call.matches();
            CHECKS.due("is a call: " + line, isCall, true);
            if (isCall) {
                Object answer = answerOf(rows, call.group(1), call.group(2));
                boolean isAsTold = answer == null ? call.group(4) == null : call.group(3).equals(answer.toString());
                CHECKS.due(line + " <- " + answer, isAsTold, true);
                called.add(call.group(1));
            }
        }
        for (Method method : publicMethods()) {
            CHECKS.due("example calls " + method.getName(), called.contains(method.getName()), true);
        }
    }

    private static Object answerOf(TextRows rows, String name, String numbers) throws ReflectiveOperationException {
        Object[] given = numbers.isBlank() ? new Object[0]
                : Pattern.compile(", *").splitAsStream(numbers).map(Integer::decode).toArray();
        Class<?>[] types = new Class<?>[given.length];
        java.util.Arrays.fill(types, int.class);
        return TextRows.class.getMethod(name, types).invoke(rows, given);
    }

    private static void allCallsAreNamed(String readme) {
        for (Method method : publicMethods()) {
            CHECKS.due("names " + method.getName(), readme.contains("| `" + method.getName() + "("), true);
        }
    }

    private static void allTestsAreNamed(String readme) throws IOException {
        try (var files = Files.list(Path.of("src/test/java"))) {
            for (Path file : files.filter(f -> f.toString().endsWith("Test.java")).toList()) {
                String name = file.getFileName().toString().replace(".java", "");
                CHECKS.due("names " + name, readme.contains("| `" + name + "` |"), true);
            }
        }
    }

    private static List<Method> publicMethods() {
        List<Method> methods = new ArrayList<>(List.of(TextRows.class.getDeclaredMethods()));
        methods.removeIf(method -> !java.lang.reflect.Modifier.isPublic(method.getModifiers()));
        return methods;
    }
}
