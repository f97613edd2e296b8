/** Promise 5: the interpreter (what comes of each form: TermsFormsTest). */
public final class Promise05InterpretTest {
    private static final int LEAST = Integer.MIN_VALUE, MOST = Integer.MAX_VALUE;

    public static void main(String[] args) {
        Sentences promise = new Sentences("Promise 5: interpret");
        promise.test("FUNCTION f is run by the interpreter with x, y, z: what comes of it.",
                Promise05InterpretTest::whatComesOfIt);
        promise.test("NoSuchElementException: f,", Promise05InterpretTest::noForm);
        promise.test("or one that a CALL leads to, has no form", Promise05InterpretTest::callToNone);
        promise.test("(or f is not 0..7).", Promise05InterpretTest::outOfRange);
        promise.test("ArithmeticException: ZERO.", Promise05InterpretTest::zero);
        promise.end();
    }

    private static void whatComesOfIt(Due due) {
        FaslDesk desk = new FaslDesk();
        Due.defined(desk, 0, 1, "ADD MUL VAR0 INT10 LET3 INT1 VAR3");
        Due.defined(desk, 1, 3, "SUB MUL VAR0 INT100 ADD MUL VAR1 INT10 VAR2");
        Due.defined(desk, 2, 0, "INT5");
        Due.defined(desk, 3, 3, "CALL1 VAR0 VAR1 VAR2");
        Due.defined(desk, 4, 3, "ADD CALL0 VAR0 DIV VAR1 VAR2 INT0 CALL2 INT1 INT2 INT3");
        Due.defined(desk, 5, 1, "LET3 INT1000 ADD CALL3 SET0 INT2 SET0 INT3 VAR0 VAR3");
        Due.defined(desk, 7, 2, "ADD CALL5 VAR0 INT0 INT0 CALL4 VAR0 INT1 VAR1");
        due.is("0", Due.interpreted(desk, 0, 7, 8, 9), "71");
        due.is("1", Due.interpreted(desk, 1, LEAST, MOST, -1), "11");
        due.is("2", Due.interpreted(desk, 2, 7, 8, 9), "5");
        due.is("3", Due.interpreted(desk, 3, 1, 2, 3), "77");
        due.is("4", Due.interpreted(desk, 4, 6, 4, 2), "66");
        due.is("5", Due.interpreted(desk, 5, 1, 0, 0), "1167");
        due.is("7", Due.interpreted(desk, 7, 6, 2, 0), "1233");
        due.is("7 again", Due.interpreted(desk, 7, 6, 2, 0), "1233");
        due.is("nothing is compiled or loaded by it", desk.count(1) + " " + desk.count(3), "0 0");
        Due.defined(desk, 2, 0, "INT6");
        due.is("a CALL leads to the form of now", Due.interpreted(desk, 7, 6, 2, 0), "1234");
    }

    private static void noForm(Due due) {
        FaslDesk desk = new FaslDesk();
        for (int f = 0; f <= 7; f++) {
            due.is("interpret " + f, Due.interpreted(desk, f, 0, 0, 0), Due.NO_SUCH);
        }
        Due.write(desk, "INT5");
        due.is("a draft is no form", Due.interpreted(desk, 4, 0, 0, 0), Due.NO_SUCH);
        desk.define(4, 0);
        due.is("now it is", Due.interpreted(desk, 4, 0, 0, 0), "5");
        due.is("of 4 alone", Due.interpreted(desk, 3, 0, 0, 0), Due.NO_SUCH);
    }

    private static void callToNone(Due due) {
        FaslDesk desk = new FaslDesk();
        Due.defined(desk, 2, 2, "IF0 VAR0 CALL1 INT1 DIV INT1 VAR1 INT3 INT8");
        Due.defined(desk, 3, 2, "NEG CALL2 VAR0 VAR1 INT0");
        due.is("the CALL is not done", Due.interpreted(desk, 2, 1, 0, 0), "8");
        due.is("there is no FUNCTION 1", Due.interpreted(desk, 2, 0, 1, 0), Due.NO_SUCH);
        due.is("by a CALL of a CALL", Due.interpreted(desk, 3, 0, 1, 0), Due.NO_SUCH);
        due.is("nothing is left of what was thrown", Due.interpreted(desk, 3, 5, 1, 0), "-8");
        Due.defined(desk, 1, 1, "NEG VAR0");
        due.is("now there is", Due.interpreted(desk, 2, 0, 1, 0), "-1");
        due.is("by a CALL of a CALL, too", Due.interpreted(desk, 3, 0, 1, 0), "1");
    }

    private static void outOfRange(Due due) {
        FaslDesk desk = Due.archive(8);
        due.is("interpret 0", Due.interpreted(desk, 0, 0, 0, 0), "100");
        due.is("interpret 7", Due.interpreted(desk, 7, 0, 0, 0), "107");
        for (int f : new int[] {LEAST, -1, 8, 9, MOST}) {
            due.is("interpret " + f, Due.interpreted(desk, f, 0, 0, 0), Due.NO_SUCH);
        }
    }

    private static void zero(Due due) {
        FaslDesk desk = new FaslDesk();
        Due.defined(desk, 0, 2, "DIV NEG VAR0 VAR1");
        Due.defined(desk, 1, 2, "REM VAR0 VAR1");
        Due.defined(desk, 2, 2, "ADD INT1 CALL0 VAR0 VAR1 INT0");
        Due.defined(desk, 3, 2, "TIMES3 VAR0 REM INT1 VAR1");
        for (int f = 0; f <= 2; f++) {
            due.is("by 0 in " + f, Due.interpreted(desk, f, 6, 0, 0), Due.ZERO);
            due.is("0 by 0 in " + f, Due.interpreted(desk, f, 0, 0, 0), Due.ZERO);
        }
        due.is("in a round", Due.interpreted(desk, 3, 1, 0, 0), Due.ZERO);
        due.is("in a round that is not done", Due.interpreted(desk, 3, 8, 0, 0), "0");
        due.is("by 4", Due.interpreted(desk, 2, 6, 4, 0), "0");
        due.is("0 by 4", Due.interpreted(desk, 1, 0, 4, 0), "0");
        due.is("the least by -1", Due.interpreted(desk, 1, LEAST, -1, 0), "0");
    }
}
