import java.lang.reflect.Constructor;
import java.lang.reflect.Field;
import java.lang.reflect.Method;
import java.lang.reflect.Modifier;
import java.util.Arrays;
import java.util.Set;
import java.util.TreeSet;

/** The public face is the document's, and nothing else can be seen from outside. */
public final class FaceTest {
    private static final Set<String> FACE = new TreeSet<>(Arrays.asList(
            "token(int,int)", "define(int,int)", "clear()",
            "interpret(int,int,int,int) NoSuchElementException ArithmeticException", "compile(int)",
            "damage(int,int,int)", "forge(int,int,int)", "drop(int)", "load()",
            "run(int,int,int,int) NoSuchElementException ArithmeticException IllegalStateException",
            "entry(int,int)", "unit(int,int,int)", "count(int)"));

    public static void main(String[] args) {
        Due due = new Due();
        due.is("public final", FaslDesk.class.getModifiers(), Modifier.PUBLIC | Modifier.FINAL);
        Set<String> seen = new TreeSet<>();
        Set<String> publicNames = new TreeSet<>();
        for (Method method : FaslDesk.class.getDeclaredMethods()) {
            if (!Modifier.isPrivate(method.getModifiers())) {
                due.is(method.getName() + " is public and answers an int",
                        method.getModifiers() + " " + method.getReturnType(), Modifier.PUBLIC + " int");
                seen.add(written(method));
                publicNames.add(method.getName());
            }
        }
        due.is("methods", seen, FACE);
        for (Method method : FaslDesk.class.getDeclaredMethods()) {
            due.is(method.getName() + " is private and has a public one's name",
                    Modifier.isPrivate(method.getModifiers()) && publicNames.contains(method.getName()), false);
        }
        Set<String> fields = new TreeSet<>();
        for (Field field : FaslDesk.class.getDeclaredFields()) {
            if (!Modifier.isPrivate(field.getModifiers())) {
                fields.add(field.getModifiers() + " " + field.getType() + " " + field.getName());
            }
        }
        int constant = Modifier.PUBLIC | Modifier.STATIC | Modifier.FINAL;
        due.is("fields", fields, new TreeSet<>(Arrays.asList(constant + " int FULL", constant + " int REFUSED")));
        Constructor<?>[] constructors = FaslDesk.class.getDeclaredConstructors();
        due.is("constructors", constructors.length, 1);
        due.is("public FaslDesk()", constructors[0].getModifiers() + " " + constructors[0].getParameterCount(),
                Modifier.PUBLIC + " 0");
        for (Class<?> inside : FaslDesk.class.getDeclaredClasses()) {
            due.is(inside + " is static and not public", Modifier.isStatic(inside.getModifiers())
                    && !Modifier.isPublic(inside.getModifiers()), true);
        }
        due.is("REFUSED", FaslDesk.REFUSED, -1);
        due.is("FULL", FaslDesk.FULL, -2);
        due.end();
    }

    private static String written(Method method) {
        StringBuilder text = new StringBuilder(method.getName()).append('(');
        for (int i = 0; i < method.getParameterCount(); i++) {
            text.append(i > 0 ? "," : "").append(method.getParameterTypes()[i]);
        }
        text.append(')');
        for (Class<?> thrown : method.getExceptionTypes()) {
            text.append(' ').append(thrown.getSimpleName());
        }
        return text.toString();
    }
}
