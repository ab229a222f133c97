import java.io.IOException;
import java.lang.reflect.InvocationTargetException;
import java.lang.reflect.Method;
import java.lang.reflect.Modifier;
import java.nio.file.Files;
import java.nio.file.Path;
import java.util.ArrayList;
import java.util.List;
import java.util.TreeSet;
import java.util.regex.Matcher;
import java.util.regex.Pattern;

/** Makes the calls that README.md shows, and looks whether they answer what it says. */
final class ReadmeTests {
    private static final Pattern SHOWN =
            Pattern.compile("book\\.(\\w+)\\((.*?)\\); +// (-?\\d+|throws \\w+)(:.*)?");

    private final UncertainBook book = new UncertainBook();
    private final TreeSet<String> called = new TreeSet<>();

    private ReadmeTests() {
    }

    public static void main(String[] args) throws IOException, ReflectiveOperationException {
        ReadmeTests tests = new ReadmeTests();
        for (String line : Files.readAllLines(Path.of("README.md"))) {
            if (line.startsWith("book.")) {
                tests.look(line);
            }
        }
        TreeSet<String> due = new TreeSet<>();
        for (Method method : methods()) {
            due.add(method.getName());
        }
        Check.same("the calls shown", String.join(" ", due), String.join(" ", tests.called));
        Check.end();
    }

    private void look(String line) throws ReflectiveOperationException {
        Matcher shown = SHOWN.matcher(line);
        if (shown.matches()) {
            Check.same(line, shown.group(3), call(shown.group(1), shown.group(2)));
        } else {
            Check.tell("no answer is shown: " + line);
        }
    }

    /** All methods of the face; no two of them have one name. */
    private static List<Method> methods() {
        List<Method> methods = new ArrayList<>();
        for (Method method : UncertainBook.class.getDeclaredMethods()) {
            if (Modifier.isPublic(method.getModifiers())) {
                methods.add(method);
            }
        }
        return methods;
    }

    private String call(String name, String words) throws ReflectiveOperationException {
        called.add(name);
        for (Method method : methods()) {
            if (method.getName().equals(name)) {
                return answer(method, words.split(", "));
            }
        }
        return "no such call";
    }

    private String answer(Method method, String[] words) throws ReflectiveOperationException {
        Object[] arguments = new Object[words.length];
        for (int k = 0; k < words.length; k++) {
            arguments[k] = argument(method.getParameterTypes()[k], words[k]);
        }
        try {
            return "" + method.invoke(book, arguments);
        } catch (InvocationTargetException e) {
            return "throws " + e.getCause().getClass().getSimpleName();
        }
    }

    private static Object argument(Class<?> type, String word)
            throws ReflectiveOperationException {
        if (type == boolean.class) {
            return Boolean.valueOf(word);
        }
        if (type == long.class) {
            return Long.decode(word.replace("L", ""));
        }
        if (word.startsWith("UncertainBook.")) {
            return UncertainBook.class.getField(word.substring(14)).get(null);
        }
        return Integer.valueOf(word);
    }
}
