import java.io.IOException;
import java.lang.reflect.InvocationTargetException;
import java.lang.reflect.Method;
import java.nio.file.Files;
import java.nio.file.Path;
import java.util.ArrayList;
import java.util.List;
import java.util.regex.Matcher;
import java.util.regex.Pattern;

/** README.md: its example answers what stands behind each call, and its list has every call. */
public final class ReadmeTest {
    private static final Pattern CALL = Pattern.compile("x\\.(\\w+)\\((.*)\\); +// (throws \\w+|-?\\d+)(:.*)?");
    private static final Pattern ROW = Pattern.compile("\\| `(\\w+)\\((.*)\\)` \\|.*\\|([ASIN, ]*)\\|");

    public static void main(String[] args) throws IOException, ReflectiveOperationException {
        List<String> lines = Files.readAllLines(Path.of("README.md"));
        example(lines);
        list(lines);
        Checks.finish();
    }

    private static void example(List<String> lines) throws ReflectiveOperationException {
        Checks.sentence("README.md says how to use the class: the example");
        int from = lines.indexOf("```java");
        Checks.same("the object", "TracedCode x = new TracedCode();", lines.get(from + 1));
        TracedCode x = new TracedCode();
        for (int i = from + 2; !lines.get(i).equals("```"); i++) {
            Matcher call = CALL.matcher(lines.get(i));
            if (!lines.get(i).isBlank()) {
                Checks.same("a call with its answer: " + lines.get(i), true, call.matches());
                Checks.same(lines.get(i), call.group(3), answer(x, call.group(1), call.group(2)));
            }
        }
    }

    private static String answer(TracedCode x, String name, String arguments) throws ReflectiveOperationException {
        String[] texts = arguments.isEmpty() ? new String[0] : arguments.split(", ");
        Method method = method(name);
        Class<?>[] types = method.getParameterTypes();
        Checks.same("arguments of " + name, types.length, texts.length);
        Object[] given = new Object[types.length];
        for (int i = 0; i < types.length; i++) {
            given[i] = types[i] == int.class ? (Object) Integer.valueOf(texts[i]) : (Object) Boolean.valueOf(texts[i]);
        }
        try {
            return String.valueOf(method.invoke(x, given));
        } catch (InvocationTargetException e) {
            return "throws " + e.getCause().getClass().getSimpleName();
        }
    }

    private static Method method(String name) {
        for (Method method : TracedCode.class.getDeclaredMethods()) {
            if (method.getName().equals(name)) {
                return method;
            }
        }
        throw new UnsupportedOperationException(name);
    }

    private static void list(List<String> lines) {
        Checks.sentence("README.md says how to use the class: all calls");
        List<String> names = new ArrayList<>();
        for (String line : lines) {
            Matcher row = ROW.matcher(line);
            if (row.matches()) {
                names.add(row.group(1));
                Method method = method(row.group(1));
                Checks.same("arguments of " + row.group(1), Math.max(1, method.getParameterCount()), row.group(2).split(", ").length);
                Checks.same("what " + row.group(1) + " throws", letters(method), row.group(3).trim());
            }
        }
        Checks.same("the list", List.of(Model.CALLS), names);
    }

    /** The letters by which the list tells exceptions. */
    private static String letters(Method method) {
        List<String> letters = new ArrayList<>();
        for (Class<?> thrown : method.getExceptionTypes()) {
            letters.add(thrown.getSimpleName().replace("Illegal", "").substring(0, 1));
        }
        return String.join(", ", letters);
    }
}
