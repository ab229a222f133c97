import java.io.IOException;
import java.nio.file.Files;
import java.nio.file.Path;
import java.util.List;
import java.util.Set;
import java.util.regex.Matcher;
import java.util.regex.Pattern;

/** What of ../shared/LANGUAGE.md can be seen from the words of the class. */
final class LanguageTests {
    private static final Path SOURCE = Path.of("src/main/java/UncertainBook.java");
    private static final int MOST_LINES = 60;
    private static final String[] RULED_OUT = {"->", "::", "Exact", "catch", "finally", "assert",
        "synchronized", "package ", "float", "double", "Object", "System.out", "String.format",
        "hashCode", "toString(", ".equals(", "static {", "protected", "var ", "Random", "Thread",
        "java.io", "java.nio", "java.time", "Collections", "HashMap", "Stream", "MAX_VALUE",
        "MIN_VALUE"};
    private static final Set<String> EXCEPTIONS = Set.of("IllegalStateException",
            "IllegalArgumentException", "IndexOutOfBoundsException");

    private LanguageTests() {
    }

    public static void main(String[] args) throws IOException {
        List<String> lines = Files.readAllLines(SOURCE);
        String text = withoutComments(String.join("\n", lines));
        for (String word : RULED_OUT) {
            Check.due("the place of " + word, -1, text.indexOf(word));
        }
        imports(text);
        exceptions(text);
        fields(text);
        Check.due("classes beside the whole", 1, count(text, "\\bclass ") <= 12 ? 1 : 0);
        methods(lines);
        Check.end();
    }

    private static String withoutComments(String text) {
        return text.replaceAll("(?s)/\\*.*?\\*/", "").replaceAll("//[^\n]*", "");
    }

    private static int count(String text, String pattern) {
        int count = 0;
        Matcher matcher = Pattern.compile(pattern).matcher(text);
        while (matcher.find()) {
            count++;
        }
        return count;
    }

    private static void imports(String text) {
        Check.due("imports", 1, count(text, "(?m)^import "));
        Check.due("that of the arrays", 1, count(text, "(?m)^import java\\.util\\.Arrays;$"));
    }

    private static void exceptions(String text) {
        Matcher matcher = Pattern.compile("throw new (\\w+)\\(\"[ -~]*\"\\);").matcher(text);
        int plain = 0;
        while (matcher.find()) {
            plain++;
            Check.due(matcher.group(1) + " is one of the document's", 1,
                    EXCEPTIONS.contains(matcher.group(1)) ? 1 : 0);
        }
        Check.due("throws that are not written plainly", 0, count(text, "\\bthrow ") - plain);
    }

    private static void fields(String text) {
        int others = count(text, "\\bstatic (?!final )[^(){}]*[;=]");
        Check.due("static fields that are not final", 0, others);
        Check.due("signs above 127", 0, count(text, "[^\\x00-\\x7F]"));
    }

    /** A method ends where its brace stands under its first line. */
    private static void methods(List<String> lines) {
        int from = -1;
        String indent = "";
        for (int at = 0; at < lines.size(); at++) {
            String line = lines.get(at);
            if (from < 0 && line.matches(" {4,8}[\\w<>\\[\\] ]+\\(.*(\\{|,|\\))$")
                    && !line.contains(" new ")) {
                from = at;
                indent = line.substring(0, line.length() - line.stripLeading().length());
            } else if (from >= 0 && line.equals(indent + "}")) {
                Check.due("the lines from " + (from + 1) + " on", 1,
                        at - from < MOST_LINES ? 1 : 0);
                from = -1;
            }
        }
    }
}
