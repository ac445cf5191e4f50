import java.io.IOException;
import java.lang.reflect.InvocationTargetException;
import java.lang.reflect.Method;
import java.nio.file.Files;
import java.nio.file.Path;
import java.util.TreeSet;
import java.util.regex.Matcher;
import java.util.regex.Pattern;

/** The example in README.md answers as it is told there, and its list of calls is whole. */
public final class ReadmeTest {
    private static final Pattern TEXT = Pattern.compile("\"(I\\w+)\"\\.toCharArray");
    private static final Pattern CALL =
            Pattern.compile("cage\\.(\\w+)\\(([^)]*)\\);\\s+// (-?\\d+): ");
    private static final Due DUE = new Due();

    public static void main(String[] args) throws IOException, ReflectiveOperationException {
        String readme = Files.readString(Path.of("README.md"));
        exampleAnswersAsTold(readme);
        everyCallIsTold(readme);
        DUE.end();
    }

    private static void exampleAnswersAsTold(String readme)
            throws IllegalAccessException, InvocationTargetException {
        DUE.sentence("README.md: the example");
        Matcher text = TEXT.matcher(readme);
        DUE.is("README.md tells a text", text.find() ? 1 : 0, 1);
        IdeaCage cage = Cages.written(text.group(1));
        Matcher call = CALL.matcher(readme);
        while (call.find()) {
            DUE.is(call.group(1) + "(" + call.group(2) + ")",
                    answer(cage, call.group(1), call.group(2)), Long.parseLong(call.group(3)));
        }
    }

    private static long answer(IdeaCage cage, String name, String told)
            throws IllegalAccessException, InvocationTargetException {
        Method method = methodOf(name);
        Class<?>[] types = method.getParameterTypes();
        String[] words = told.isEmpty() ? new String[0] : told.split(", ");
        Object[] values = new Object[words.length];
        for (int i = 0; i < words.length; i++) {
            values[i] = valueOf(words[i], types[i]);
        }
        return ((Number) method.invoke(cage, values)).longValue();
    }

    private static Method methodOf(String name) {
        for (Method method : IdeaCage.class.getMethods()) {
            if (method.getName().equals(name)) {
                return method;
            }
        }
        throw new IllegalStateException("README.md calls " + name);
    }

    private static Object valueOf(String word, Class<?> type) {
        if (type == boolean.class) {
            return Boolean.valueOf(word);
        }
        return type == long.class
                ? (Object) Long.valueOf(word.replace("L", ""))
                : Integer.valueOf(word);
    }

    private static void everyCallIsTold(String readme) {
        DUE.sentence("README.md: the list of calls");
        TreeSet<String> told = new TreeSet<>();
        for (String row : readme.split("\n")) {
            if (row.startsWith("| `")) {
                Matcher name = Pattern.compile("`(\\w+)`").matcher(row.substring(0, row.indexOf('|', 1)));
                while (name.find()) {
                    told.add(name.group(1));
                }
            }
        }
        TreeSet<String> calls = new TreeSet<>();
        for (Method method : IdeaCage.class.getMethods()) {
            if (method.getDeclaringClass() == IdeaCage.class) {
                calls.add(method.getName());
            }
        }
        DUE.same("the calls that are told", told.toString(), calls.toString());
    }
}
