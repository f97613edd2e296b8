import java.io.IOException;
import java.lang.reflect.InvocationTargetException;
import java.lang.reflect.Method;
import java.lang.reflect.Modifier;
import java.nio.file.Files;
import java.nio.file.Path;
import java.util.ArrayList;
import java.util.Arrays;
import java.util.List;
import java.util.Set;
import java.util.TreeSet;
import java.util.regex.Matcher;
import java.util.regex.Pattern;

/** The calls that README.md shows answer what stands behind them, and no call of the face is left out of its table. */
public final class ReadmeTest {
    private static final Pattern CALL = Pattern.compile("desk\\.(\\w+)\\(([^)]*)\\);\\s*// ([^:]+): .*");
    private static final Pattern ROW = Pattern.compile("\\| `(\\w+)\\(.*\\)` \\|.*");

    public static void main(String[] args) throws IOException {
        Due due = new Due();
        List<String> lines = Files.readAllLines(Path.of("README.md"));
        shownCalls(due, lines);
        due.is("the calls in the table", namesInTable(lines), namesOfFace());
        due.end();
    }

    private static void shownCalls(Due due, List<String> lines) {
        List<String> shown = new ArrayList<>(lines.subList(lines.indexOf("```java") + 1, lines.size()));
        shown = shown.subList(0, shown.indexOf("```"));
        due.is("the first line shown", shown.get(0), "FaslDesk desk = new FaslDesk();");
        FaslDesk desk = new FaslDesk();
        for (String line : shown.subList(1, shown.size())) {
            Matcher call = CALL.matcher(line);
            due.is(line, call.matches() ? answer(desk, call.group(1), call.group(2)) : "no call with an answer",
                    call.matches() ? call.group(3) : "");
        }
    }

    private static String answer(FaslDesk desk, String name, String written) {
        Object[] numbers = Arrays.stream(written.split(", ")).filter(number -> !number.isEmpty())
                .map(Integer::valueOf).toArray();
        Class<?>[] types = new Class<?>[numbers.length];
        Arrays.fill(types, int.class);
        try {
            return FaslDesk.class.getMethod(name, types).invoke(desk, numbers).toString();
        } catch (InvocationTargetException e) {
            return "throws." + e.getCause().getClass().getSimpleName();
        } catch (ReflectiveOperationException e) {
            return "there is no such call";
        }
    }

    private static Set<String> namesInTable(List<String> lines) {
        Set<String> names = new TreeSet<>();
        for (String line : lines) {
            Matcher row = ROW.matcher(line);
            if (row.matches()) {
                names.add(row.group(1));
            }
        }
        return names;
    }

    private static Set<String> namesOfFace() {
        Set<String> names = new TreeSet<>();
        for (Method method : FaslDesk.class.getDeclaredMethods()) {
            if (Modifier.isPublic(method.getModifiers())) {
                names.add(method.getName());
            }
        }
        return names;
    }
}
