/** Promise 11: the IMAGE's code (each form: TermsFormsTest, each UNIT: TermsCodeTest). */
public final class Promise11RunTest {
    private static final int LEAST = Integer.MIN_VALUE, MOST = Integer.MAX_VALUE;

    public static void main(String[] args) {
        Sentences promise = new Sentences("Promise 11: run");
        promise.test("FUNCTION f of the IMAGE is run with x, y, z: what comes of it.", Promise11RunTest::whatComesOfIt);
        promise.test("NoSuchElementException: the IMAGE has no such FUNCTION.", Promise11RunTest::noSuchFunction);
        promise.test("ArithmeticException: ZERO.", Promise11RunTest::zero);
        promise.test("IllegalStateException: a CALL leads to a FUNCTION that the IMAGE does not have.",
                Promise11RunTest::callToNone);
        promise.end();
    }

    private static void whatComesOfIt(Due due) {
        FaslDesk desk = new FaslDesk();
        Due.defined(desk, 0, 1, "ADD MUL VAR0 INT10 LET3 INT1 VAR3");
        Due.defined(desk, 1, 3, "SUB MUL VAR0 INT100 ADD MUL VAR1 INT10 VAR2");
        Due.defined(desk, 2, 0, "INT5");
        Due.defined(desk, 3, 3, "CALL1 VAR0 VAR1 VAR2");
        Due.defined(desk, 4, 3, "ADD CALL0 VAR0 DIV VAR1 VAR2 INT0 CALL2 INT1 INT2 INT3");
        Due.defined(desk, 5, 1, "LET3 INT1000 ADD CALL3 SET0 INT2 SET0 INT3 VAR0 VAR3");
        Due.defined(desk, 7, 2, "ADD CALL5 VAR0 INT0 INT0 CALL4 VAR0 INT1 VAR1");
        for (int f : new int[] {7, 0, 5, 1, 4, 2, 3}) {
            desk.compile(f);
        }
        due.is("load()", desk.load(), 0);
        due.is("0", Due.ran(desk, 0, 7, 8, 9), "71");
        due.is("1", Due.ran(desk, 1, LEAST, MOST, -1), "11");
        due.is("2", Due.ran(desk, 2, 7, 8, 9), "5");
        due.is("3", Due.ran(desk, 3, 1, 2, 3), "77");
        due.is("4", Due.ran(desk, 4, 6, 4, 2), "66");
        due.is("5", Due.ran(desk, 5, 1, 0, 0), "1167");
        due.is("7", Due.ran(desk, 7, 6, 2, 0), "1233");
        due.is("7 again", Due.ran(desk, 7, 6, 2, 0), "1233");
        Due.defined(desk, 7, 0, "INT9");
        due.is("not the form of now", Due.ran(desk, 7, 6, 2, 0), "1233");
    }

    private static void noSuchFunction(Due due) {
        FaslDesk desk = Due.archive(2);
        due.is("it is not loaded", Due.ran(desk, 0, 0, 0, 0), Due.NO_SUCH);
        desk.load();
        for (int f : new int[] {LEAST, -1, 2, 7, 8, 9, MOST}) {
            due.is("run " + f, Due.ran(desk, f, 0, 0, 0), Due.NO_SUCH);
        }
        due.is("run 0", Due.ran(desk, 0, 0, 0, 0), "100");
        due.is("run 1", Due.ran(desk, 1, 0, 0, 0), "101");
        Due.defined(desk, 2, 0, "INT2");
        due.is("a form alone", Due.ran(desk, 2, 0, 0, 0), Due.NO_SUCH);
        desk.compile(2);
        due.is("an ENTRY alone", Due.ran(desk, 2, 0, 0, 0), Due.NO_SUCH);
        desk.drop(0);
        desk.load();
        due.is("it is in a fresh IMAGE", Due.ran(desk, 2, 0, 0, 0), "2");
        due.is("what was dropped is not", Due.ran(desk, 0, 0, 0, 0), Due.NO_SUCH);
    }

    private static void zero(Due due) {
        FaslDesk desk = new FaslDesk();
        Due.defined(desk, 0, 2, "DIV NEG VAR0 VAR1");
        Due.defined(desk, 1, 2, "REM VAR0 VAR1");
        Due.defined(desk, 2, 2, "ADD INT1 CALL0 VAR0 VAR1 INT0");
        Due.defined(desk, 3, 2, "TIMES3 VAR0 REM INT1 VAR1");
        for (int f = 0; f <= 3; f++) {
            desk.compile(f);
        }
        due.is("a division by 0 is no FAULT", desk.load(), 0);
        for (int f = 0; f <= 2; f++) {
            due.is("by 0 in " + f, Due.ran(desk, f, 6, 0, 0), Due.ZERO);
            due.is("0 by 0 in " + f, Due.ran(desk, f, 0, 0, 0), Due.ZERO);
        }
        due.is("in a round", Due.ran(desk, 3, 1, 0, 0), Due.ZERO);
        due.is("in a round that is not done", Due.ran(desk, 3, 8, 0, 0), "0");
        due.is("by 4", Due.ran(desk, 2, 6, 4, 0), "0");
        due.is("nothing is left of what was thrown", Due.ran(desk, 0, 6, 3, 0), "-2");
        due.is("the least by -1", Due.ran(desk, 1, LEAST, -1, 0), "0");
    }

    private static void callToNone(Due due) {
        FaslDesk desk = new FaslDesk();
        Due.defined(desk, 0, 1, "MUL VAR0 INT2");
        Due.defined(desk, 3, 1, "CALL0 VAR0 INT0 INT0");
        Due.defined(desk, 5, 2, "IF0 VAR0 INT7 CALL3 DIV VAR1 VAR0 INT0 DIV INT1 VAR1");
        desk.compile(5);
        desk.load();
        due.is("the CALL is not done", Due.ran(desk, 5, 0, 0, 0), "7");
        due.is("the CALL is done", Due.ran(desk, 5, 1, 1, 0), Due.NOT_THERE);
        due.is("its X, Y and Z come before", Due.ran(desk, 5, 1, 0, 0), Due.ZERO);
        desk.compile(3);
        desk.load();
        due.is("what leads to it is there", Due.ran(desk, 3, 1, 0, 0), Due.NOT_THERE);
        due.is("by a CALL of a CALL", Due.ran(desk, 5, 1, 1, 0), Due.NOT_THERE);
        due.is("again", Due.ran(desk, 5, 1, 1, 0), Due.NOT_THERE);
        due.is("X, Y and Z of that come before", Due.ran(desk, 5, 1, 0, 0), Due.ZERO);
        due.is("nothing is left of what was thrown", Due.ran(desk, 5, 0, 0, 0), "7");
        due.is("the interpreter finds it", Due.interpreted(desk, 5, 1, 8, 0), "16");
        desk.compile(0);
        due.is("compiled, but not loaded", Due.ran(desk, 3, 1, 0, 0), Due.NOT_THERE);
        desk.load();
        due.is("loaded", Due.ran(desk, 3, 1, 0, 0), "2");
        due.is("by a CALL of a CALL", Due.ran(desk, 5, 2, 8, 0), "8");
        due.is("f itself is not there", Due.ran(desk, 4, 0, 0, 0), Due.NO_SUCH);
    }
}
