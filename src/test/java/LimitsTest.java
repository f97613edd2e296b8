import java.lang.reflect.Array;
import java.lang.reflect.Field;
import java.lang.reflect.Modifier;
import java.util.Collections;
import java.util.IdentityHashMap;
import java.util.Set;

/** The largest forms, the deepest CALLS, the longest runs, and the room that an object takes. */
public final class LimitsTest {
    private static final Due DUE = new Due();

    public static void main(String[] args) {
        manyUnits();
        highStack();
        deepForms();
        deepCalls();
        manyCalls();
        room();
        DUE.end();
    }

    private static void same(FaslDesk desk, int f, int x, int y, int z, String want) {
        DUE.is("interpret", Due.interpreted(desk, f, x, y, z), want);
        DUE.is("run", Due.ran(desk, f, x, y, z), want);
    }

    private static FaslDesk loaded(int f, int n, String form, int tokens) {
        FaslDesk desk = new FaslDesk();
        DUE.is("tokens", Due.write(desk, form), tokens);
        DUE.is("define", desk.define(f, n), tokens);
        DUE.is("compile", desk.compile(f), 0);
        DUE.is("load", desk.load(), 0);
        return desk;
    }

    /** Five TIMES with a TIMES in X and Y each take 35 tokens; IFS join them with few more, SETS fill up. */
    private static void manyUnits() {
        String loop = " TIMES3 TIMES3 INT7 INT1 TIMES4 INT7 INT1";
        String form = "IF0" + loop + loop + " IF0" + loop + " SET0 SET0 SET0" + loop + loop;
        FaslDesk desk = loaded(7, 1, form, 40);
        DUE.is("units", desk.entry(0, 2), 12 + 5 * 40 + 2 * 2 + 3 * 2 + 1);
        DUE.is("the last is GIVE", desk.unit(0, desk.entry(0, 2) - 1, 0), 17);
        same(desk, 7, 1, 2, 3, "0");
    }

    private static void highStack() {
        StringBuilder form = new StringBuilder();
        int want = 0;
        for (int k = 0; k < 18; k++) {
            form.append("ADD INT").append(k).append(' ');
            want += k;
        }
        DUE.is("STACK", loaded(0, 1, form + "SET0 SET0 SET0 INT9", 40).entry(0, 3), 20);
        same(loaded(0, 1, form + "SET0 SET0 SET0 INT9", 40), 0, 1, 2, 3, "" + (want + 9));
        String calls = "CALL0 INT1 INT2 CALL0 INT3 INT4 ";
        FaslDesk desk = loaded(7, 1, calls + form.substring(0, form.indexOf("ADD INT16")) + "SET0 VAR0", 40);
        DUE.is("STACK with CALLS", desk.entry(0, 3), 22);
        DUE.is("run", Due.ran(desk, 7, 0, 0, 0), Due.NOT_THERE);
        DUE.is("interpret", Due.interpreted(desk, 7, 0, 0, 0), Due.NO_SUCH);
    }

    private static void deepForms() {
        same(loaded(0, 0, "NEG ".repeat(39) + "INT5", 40), 0, 0, 0, 0, "-5");
        same(loaded(0, 1, "SET0 ".repeat(39) + "INT5", 40), 0, 0, 0, 0, "5");
        same(loaded(0, 1, "IF0 ".repeat(13) + "INT0" + " INT0 INT1".repeat(13), 40), 0, 0, 0, 0, "0");
        same(loaded(0, 0, "LET3 INT1 ".repeat(19) + "NEG VAR3", 40), 0, 0, 0, 0, "-1");
        FaslDesk desk = new FaslDesk();
        DUE.is("no end", Due.write(desk, "NEG ".repeat(40)), 40);
        DUE.refused("is no form", desk.define(0, 0));
    }

    /** Every FUNCTION has its CALL within 36 forms; FUNCTION 0 divides by 0 at the deepest. */
    private static void deepCalls() {
        FaslDesk desk = new FaslDesk();
        Due.defined(desk, 0, 1, "NEG ".repeat(37) + "DIV INT1 VAR0");
        desk.compile(0);
        for (int f = 1; f < 8; f++) {
            Due.defined(desk, f, 1, "NEG ".repeat(36) + "CALL" + (f - 1) + " VAR0 VAR0 VAR0");
            desk.compile(f);
        }
        DUE.is("load", desk.load(), 0);
        same(desk, 7, 1, 0, 0, "-1");
        DUE.is("few open calls in interpret", openCalls(() -> desk.interpret(7, 0, 0, 0)) < 100, true);
        DUE.is("few open calls in run", openCalls(() -> desk.run(7, 0, 0, 0)) < 100, true);
    }

    private static int openCalls(Due.Call call) {
        try {
            call.answer();
            return Integer.MAX_VALUE;
        } catch (ArithmeticException e) {
            return e.getStackTrace().length;
        }
    }

    private static void manyCalls() {
        FaslDesk desk = new FaslDesk();
        Due.defined(desk, 0, 1, "LET3 INT0 ADD TIMES4 INT7 TIMES5 INT7 SET3 ADD VAR3 VAR0 VAR3");
        desk.compile(0);
        for (int f = 1; f < 8; f++) {
            Due.defined(desk, f, 1, "ADD CALL" + (f - 1) + " VAR0 INT0 INT0 CALL" + (f - 1) + " VAR0 INT0 INT0");
            desk.compile(f);
        }
        DUE.is("load", desk.load(), 0);
        same(desk, 7, 3, 0, 0, "" + 3 * 49 * 128);
    }

    private static void room() {
        FaslDesk desk = Due.archive(8);
        long before = sizeOf(desk, seen());
        System.out.println("an object has " + before + " fields and elements");
        DUE.is("an object is small", before < 30_000, true);
        for (int k = 0; k < 60; k++) {
            Due.defined(desk, 7, 0, "NEG NEG INT5");
            desk.compile(k % 7);
            desk.compile(7);
            desk.load();
            desk.interpret(7, 0, 0, 0);
            desk.run(7, 0, 0, 0);
            desk.drop(0);
        }
        DUE.is("and does not grow", sizeOf(desk, seen()), before);
    }

    private static Set<Object> seen() {
        return Collections.newSetFromMap(new IdentityHashMap<>());
    }

    private static long sizeOf(Object object, Set<Object> seen) {
        if (object == null || !seen.add(object)) {
            return 0;
        }
        long size = 0;
        if (object.getClass().isArray()) {
            size += Array.getLength(object);
            if (object instanceof Object[]) {
                for (Object element : (Object[]) object) {
                    size += sizeOf(element, seen);
                }
            }
            return size;
        }
        try {
            for (Field field : object.getClass().getDeclaredFields()) {
                if (!Modifier.isStatic(field.getModifiers())) {
                    field.setAccessible(true);
                    size += 1 + (field.getType().isPrimitive() ? 0 : sizeOf(field.get(object), seen));
                }
            }
        } catch (IllegalAccessException e) {
            throw new IllegalStateException(e);
        }
        return size;
    }
}
