/** Promise 3: a draft becomes a FUNCTION's form (which forms go: TermsFormsTest). */
public final class Promise03DefineTest {
    private static final int LEAST = Integer.MIN_VALUE, MOST = Integer.MAX_VALUE;

    public static void main(String[] args) {
        Sentences promise = new Sentences("Promise 3: define");
        promise.test("The draft is the form of FUNCTION f with n PARAMETERS,", Promise03DefineTest::becomesTheForm);
        promise.test("and empty then: how many tokens it has.", Promise03DefineTest::emptyThen);
        promise.test("REFUSED if f is not 0..7,", Promise03DefineTest::functions);
        promise.test("n not 0..3,", Promise03DefineTest::parameters);
        promise.test("or it is not one form as said;", Promise03DefineTest::notOneForm);
        promise.test("the draft stays then.", Promise03DefineTest::draftStays);
        promise.end();
    }

    private static void becomesTheForm(Due due) {
        FaslDesk desk = new FaslDesk();
        Due.defined(desk, 3, 2, "ADD VAR1 INT4");
        due.is("it runs", Due.interpreted(desk, 3, 10, 20, 30), "24");
        due.is("the others have none", desk.count(0), 1);
        desk.compile(3);
        due.is("PARAMETERS", desk.entry(0, 1), 2);
        Due.defined(desk, 3, 3, "VAR2");
        due.is("another one in its place", Due.interpreted(desk, 3, 10, 20, 30), "30");
        due.is("still one", desk.count(0), 1);
        due.is("the ENTRY is as it was", desk.entry(0, 1), 2);
        Due.defined(desk, 3, 0, "INT7");
        desk.compile(3);
        due.is("fewer PARAMETERS", desk.entry(0, 1), 0);
    }

    private static void emptyThen(Due due) {
        for (int tokens : new int[] {1, 2, 39, 40}) {
            FaslDesk desk = new FaslDesk();
            Due.write(desk, "NEG ".repeat(tokens - 1) + "INT5");
            due.is("define(0, 0)", desk.define(0, 0), tokens);
            due.is("tokens in the draft", desk.count(7), 0);
            due.is("clear()", desk.clear(), 0);
            due.refused("nothing is left to define", desk.define(0, 0));
        }
    }

    private static void functions(Due due) {
        for (int f = 0; f <= 7; f++) {
            due.goes(f, 0, "INT5", true);
        }
        for (int f : new int[] {LEAST, -1, 8, 9, MOST}) {
            due.goes(f, 0, "INT5", false);
        }
    }

    private static void parameters(Due due) {
        for (int n = 0; n <= 3; n++) {
            due.goes(0, n, "INT5", true);
        }
        for (int n : new int[] {LEAST, -1, 4, 32, 35, MOST}) {
            due.goes(0, n, "INT5", false);
        }
    }

    private static void notOneForm(Due due) {
        due.refused("none at all", new FaslDesk().define(0, 0));
        due.goes(0, 0, "ADD INT1", false);
        due.goes(0, 0, "ADD INT1 INT2", true);
        due.goes(0, 0, "ADD INT1 INT2 INT3", false);
        due.goes(0, 0, "NEG ".repeat(39) + "INT1", true);
        due.goes(0, 0, "NEG ".repeat(40), false);
        due.goes(0, 0, "NEG ".repeat(38) + "INT1 INT2", false);
        due.goes(0, 0, "VAR0", false);
        due.goes(0, 2, "SET2 INT1", false);
        due.goes(0, 0, "LET3 VAR3 INT1", false);
        due.goes(0, 0, "TIMES3 INT1 SET3 INT2", false);
        due.goes(0, 0, "TIMES3 INT1 TIMES4 INT1 TIMES5 INT1 INT2", false);
        due.goes(3, 0, "CALL3 INT1 INT2 INT3", false);
        due.goes(3, 0, "TIMES3 INT1 CALL2 INT1 INT2 INT3", false);
        due.goes(3, 0, "IF0 CALL0 INT1 INT2 INT3 CALL1 INT1 INT2 INT3 CALL2 INT1 INT2 INT3", false);
    }

    private static void draftStays(Due due) {
        FaslDesk desk = Due.desk(3, 1, "NEG VAR0");
        Due.write(desk, "ADD VAR1");
        due.refused("half a form", desk.define(3, 2));
        due.is("it stays", desk.count(7), 2);
        desk.token(0, 4);
        due.refused("no FUNCTION 8", desk.define(8, 2));
        due.refused("too few PARAMETERS", desk.define(3, 1));
        due.refused("too many PARAMETERS", desk.define(3, 4));
        due.is("it stays", desk.count(7), 3);
        due.is("the form of before stays", Due.interpreted(desk, 3, 10, 20, 30), "-10");
        due.is("the same draft goes", desk.define(3, 2), 3);
        due.is("it is as it was written", Due.interpreted(desk, 3, 10, 20, 30), "24");
    }
}
