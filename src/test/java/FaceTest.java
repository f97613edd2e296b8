import java.io.IOException;
import java.lang.reflect.Constructor;
import java.lang.reflect.Field;
import java.lang.reflect.Method;
import java.lang.reflect.Modifier;
import java.nio.file.Files;
import java.nio.file.Path;
import java.util.Arrays;
import java.util.List;
import java.util.Set;
import java.util.TreeSet;

/** The public face is the document's, and nothing else can be seen from outside. */
public final class FaceTest {
    private static final Set<String> FACE = new TreeSet<>(Arrays.asList(
            "token(int,int)", "define(int,int)", "clear()",
            "interpret(int,int,int,int) NoSuchElementException ArithmeticException", "compile(int)",
            "damage(int,int,int)", "forge(int,int,int)", "drop(int)", "load()",
            "run(int,int,int,int) NoSuchElementException ArithmeticException IllegalStateException",
            "entry(int,int)", "unit(int,int,int)", "count(int)"));

    public static void main(String[] args) throws IOException {
        Due due = new Due();
        due.is("public final", FaslDesk.class.getModifiers(), Modifier.PUBLIC | Modifier.FINAL);
        Set<String> seen = new TreeSet<>();
        Set<String> publicNames = new TreeSet<>();
        for (Method method : FaslDesk.class.getDeclaredMethods()) {
            if (!Modifier.isPrivate(method.getModifiers())) {
                due.is(method.getName() + " is public and answers an int",
                        method.getModifiers() + " " + method.getReturnType(), Modifier.PUBLIC + " int");
                seen.add(written(method));
                publicNames.add(method.getName());
            }
        }
        due.is("methods", seen, FACE);
        for (Method method : FaslDesk.class.getDeclaredMethods()) {
            due.is(method.getName() + " is private and has a public one's name",
                    Modifier.isPrivate(method.getModifiers()) && publicNames.contains(method.getName()), false);
        }
        Set<String> fields = new TreeSet<>();
        for (Field field : FaslDesk.class.getDeclaredFields()) {
            if (!Modifier.isPrivate(field.getModifiers())) {
                fields.add(field.getModifiers() + " " + field.getType() + " " + field.getName());
            }
        }
        int constant = Modifier.PUBLIC | Modifier.STATIC | Modifier.FINAL;
        due.is("fields", fields, new TreeSet<>(Arrays.asList(constant + " int FULL", constant + " int REFUSED")));
        Constructor<?>[] constructors = FaslDesk.class.getDeclaredConstructors();
        due.is("constructors", constructors.length, 1);
        due.is("public FaslDesk()", constructors[0].getModifiers() + " " + constructors[0].getParameterCount(),
                Modifier.PUBLIC + " 0");
        for (Class<?> inside : FaslDesk.class.getDeclaredClasses()) {
            due.is(inside + " is static and not public", Modifier.isStatic(inside.getModifiers())
                    && !Modifier.isPublic(inside.getModifiers()), true);
        }
        due.is("REFUSED", FaslDesk.REFUSED, -1);
        due.is("FULL", FaslDesk.FULL, -2);
        asWritten(due);
        due.end();
    }

    /** Every line of the document's face stands in the program, with the names of its parameters, too. */
    private static void asWritten(Due due) throws IOException {
        String program = inOneLine(Files.readString(Path.of("src", "main", "java", "FaslDesk.java")));
        List<String> document = Files.readAllLines(Path.of("..", "shared", "DOC.md"));
        int begin = document.indexOf("## The public face") + 3;
        int lines = 0;
        for (int k = begin; !document.get(k).equals("}"); k++) {
            String line = inOneLine(document.get(k)).replace("java.util.", "");
            String declared = line.contains("(") ? line.replace(";", " {") : line;
            due.is("the program has " + line, program.contains(declared), true);
            lines++;
        }
        due.is("lines of the face", lines, 16);
    }

    private static String inOneLine(String text) {
        return text.trim().replaceAll("\\s+", " ");
    }

    private static String written(Method method) {
        StringBuilder text = new StringBuilder(method.getName()).append('(');
        for (int i = 0; i < method.getParameterCount(); i++) {
            text.append(i > 0 ? "," : "").append(method.getParameterTypes()[i]);
        }
        text.append(')');
        for (Class<?> thrown : method.getExceptionTypes()) {
            text.append(' ').append(thrown.getSimpleName());
        }
        return text.toString();
    }
}
