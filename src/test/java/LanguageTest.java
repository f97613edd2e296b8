import java.io.IOException;
import java.lang.reflect.Field;
import java.lang.reflect.Method;
import java.lang.reflect.Modifier;
import java.nio.file.Files;
import java.nio.file.Path;
import java.util.ArrayList;
import java.util.Arrays;
import java.util.List;
import java.util.regex.Matcher;
import java.util.regex.Pattern;

/** What of ../shared/LANGUAGE.md can be seen in the program's text and its classes. */
public final class LanguageTest {
    private static final List<String> NEVER = List.of("->", "::", "package ", "finally", "synchronized", "assert ",
            "static {", "getMessage", "hashCode", "toString", "Exact(", "Thread", "Random", "nanoTime", "Millis",
            "getenv", "protected ", "[][][]");
    private static final List<String> EXCEPTIONS = List.of("IllegalStateException", "IllegalArgumentException",
            "IndexOutOfBoundsException", "ArithmeticException", "UnsupportedOperationException",
            "NoSuchElementException", "RuntimeException");
    private static final List<Class<?>> CONSTANTS = List.of(int.class, long.class, boolean.class, char.class,
            String.class, int[].class, long[].class, char[].class, byte[].class);

    public static void main(String[] args) throws IOException {
        Due due = new Due();
        text(due, Files.readString(Path.of("src", "main", "java", "FaslDesk.java")));
        List<Class<?>> classes = new ArrayList<>(Arrays.asList(FaslDesk.class.getDeclaredClasses()));
        classes.add(FaslDesk.class);
        due.is("rule 11: at most twelve classes", classes.size() <= 12, true);
        for (Class<?> one : classes) {
            fields(due, one);
            methods(due, one);
        }
        due.end();
    }

    private static void text(Due due, String program) {
        for (String word : NEVER) {
            due.is("'" + word + "' is in the program", program.contains(word), false);
        }
        due.is("rule 4: what is imported", found("import ([^;]+);", program),
                List.of("java.util.Arrays", "java.util.NoSuchElementException"));
        due.is("rule 4: what is used of System", found("System\\.(\\w+)", program).stream().distinct().toList(),
                List.of("arraycopy"));
        due.is("rule 6: what is thrown", EXCEPTIONS.containsAll(found("throw new (\\w+)\\(", program)), true);
        due.is("rule 6: every throw makes what it throws", found("(throw) ", program).size(),
                found("(throw new) ", program).size());
        due.is("rule 11: the longest method has at most 60 lines", longestMethod(program) <= 60, true);
    }

    private static List<String> found(String pattern, String program) {
        List<String> all = new ArrayList<>();
        Matcher matcher = Pattern.compile(pattern).matcher(program);
        while (matcher.find()) {
            all.add(matcher.group(1));
        }
        return all;
    }

    /* A method begins with a line that ends in ") {" or a throws clause, and ends with a brace as far in as that. */
    private static int longestMethod(String program) {
        int longest = 0;
        Matcher method = Pattern.compile("(?m)^( {4}| {8})(?![ /*])[^\n}]*\\)[^\n;]*(\n[^\n;{]*)?\\{\n(?:.*\n)*?\\1\\}\n")
                .matcher(program);
        while (method.find()) {
            longest = Math.max(longest, method.group().split("\n").length);
        }
        return longest;
    }

    private static void fields(Due due, Class<?> one) {
        int own = 0;
        for (Field field : one.getDeclaredFields()) {
            if (Modifier.isStatic(field.getModifiers())) {
                due.is("rule 5: " + field + " is a constant", Modifier.isFinal(field.getModifiers())
                        && CONSTANTS.contains(field.getType()), true);
            } else {
                own++;
            }
        }
        due.is("rule 11: " + one + " has at most twenty fields", own <= 20, true);
    }

    private static void methods(Due due, Class<?> one) {
        for (Method method : one.getDeclaredMethods()) {
            due.is("rule 11: " + method + " has at most seven parameters", method.getParameterCount() <= 7, true);
        }
    }
}
