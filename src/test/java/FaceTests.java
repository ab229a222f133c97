import java.lang.reflect.Constructor;
import java.lang.reflect.Field;
import java.lang.reflect.Method;
import java.lang.reflect.Modifier;
import java.util.TreeSet;

/** The public face, as the document tells it, and nothing beside it. */
final class FaceTests {
    private static final String AT = "IndexOutOfBoundsException";
    private static final String BAD = "IllegalArgumentException";
    private static final String STATE = "IllegalStateException";

    private FaceTests() {
    }

    public static void main(String[] args) {
        constants();
        methods();
        nothingElse();
        Check.end();
    }

    private static void constants() {
        Check.due("NONE", -1, UncertainBook.NONE);
        Check.due("EVEN", 1, UncertainBook.EVEN);
        Check.due("PEAK", 2, UncertainBook.PEAK);
        Check.due("ENDS", 3, UncertainBook.ENDS);
        Check.due("READ", 4, UncertainBook.READ);
    }

    private static void methods() {
        TreeSet<String> due = new TreeSet<>();
        due.add(line("int shape int int int int", AT, BAD));
        due.add(line("int read int int", AT, BAD, STATE));
        due.add(line("int unit int int int", AT, BAD));
        due.add(line("int together int int int", AT, BAD));
        due.add(line("int input int int", AT, BAD));
        due.add(line("int type long", BAD, STATE));
        due.add(line("int model int", AT, STATE));
        due.add(line("int disagrees int", AT));
        due.add(line("int unitOf int boolean", AT));
        due.add(line("long value int", AT));
        due.add(line("long sensitivity int int", AT));
        due.add(line("long sensitivityAnew int int", AT));
        due.add(line("long budget int int", AT, BAD));
        due.add(line("long contribution int int boolean", AT));
        due.add(line("int ranked int int", AT));
        due.add(line("int table int int", BAD, STATE));
        due.add(line("int seed int", BAD));
        due.add(line("int draw int int", AT, BAD));
        TreeSet<String> got = new TreeSet<>();
        for (Method method : UncertainBook.class.getDeclaredMethods()) {
            if (!Modifier.isPrivate(method.getModifiers())) {
                got.add(lineOf(method));
            }
        }
        Check.same("the face", String.join("\n", due), String.join("\n", got));
    }

    private static String line(String head, String... exceptions) {
        return head + " throws " + String.join(" ", exceptions);
    }

    private static String lineOf(Method method) {
        StringBuilder text = new StringBuilder();
        text.append(Modifier.isPublic(method.getModifiers()) ? "" : "hidden ");
        text.append(Modifier.isStatic(method.getModifiers()) ? "static " : "");
        text.append(method.getReturnType().getName()).append(' ').append(method.getName());
        for (Class<?> type : method.getParameterTypes()) {
            text.append(' ').append(type.getName());
        }
        text.append(" throws");
        for (Class<?> type : method.getExceptionTypes()) {
            text.append(' ').append(type.getSimpleName());
        }
        return text.toString();
    }

    private static void nothingElse() {
        Class<?> book = UncertainBook.class;
        Check.due("final", 1, Modifier.isFinal(book.getModifiers()) ? 1 : 0);
        Check.due("public", 1, Modifier.isPublic(book.getModifiers()) ? 1 : 0);
        Constructor<?>[] constructors = book.getDeclaredConstructors();
        Check.due("constructors", 1, constructors.length);
        Check.due("its parameters", 0, constructors[0].getParameterCount());
        Check.due("it is public", 1, Modifier.isPublic(constructors[0].getModifiers()) ? 1 : 0);
        int open = 0;
        for (Field field : book.getDeclaredFields()) {
            open += Modifier.isPrivate(field.getModifiers()) ? 0 : 1;
        }
        Check.due("fields that are not private", 5, open);
        for (Class<?> inside : book.getDeclaredClasses()) {
            int modifiers = inside.getModifiers();
            Check.due(inside.getName() + " is hidden and static", 1, Modifier.isStatic(modifiers)
                    && !Modifier.isPublic(modifiers) && !Modifier.isProtected(modifiers) ? 1 : 0);
        }
    }
}
