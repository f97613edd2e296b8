/** Promise 11: the IMAGE's code, forged code in it, and CALLS that find nothing (what comes of forms: Promise05InterpretTest). */
public final class Promise11RunTest {
    private static final Due DUE = new Due();

    public static void main(String[] args) {
        nothingThere();
        callsFindNothing();
        forgedCode();
        DUE.end();
    }

    private static void nothingThere() {
        FaslDesk desk = Due.archive(2);
        DUE.is("not loaded", Due.ran(desk, 0, 0, 0, 0), Due.NO_SUCH);
        desk.load();
        for (int f : new int[] {-1, 2, 7, 8, Integer.MIN_VALUE, Integer.MAX_VALUE}) {
            DUE.is("run " + f, Due.ran(desk, f, 0, 0, 0), Due.NO_SUCH);
        }
        DUE.is("run 1", Due.ran(desk, 1, 0, 0, 0), "101");
    }

    private static void callsFindNothing() {
        FaslDesk desk = new FaslDesk();
        Due.defined(desk, 0, 1, "MUL VAR0 INT2");
        Due.defined(desk, 3, 1, "CALL0 VAR0 INT0 INT0");
        Due.defined(desk, 5, 2, "IF0 VAR0 INT7 CALL3 DIV VAR1 VAR0 INT0 DIV INT1 VAR1");
        desk.compile(5);
        desk.compile(3);
        DUE.is("a CALL need not lead anywhere to be loaded", desk.load(), 0);
        DUE.is("nor if it is not done", Due.ran(desk, 5, 0, 0, 0), "7");
        DUE.is("CALL of a CALL", Due.ran(desk, 5, 1, 1, 0), Due.NOT_THERE);
        DUE.is("its X, Y and Z come first", Due.ran(desk, 5, 1, 0, 0), Due.ZERO);
        DUE.is("again", Due.ran(desk, 3, 1, 0, 0), Due.NOT_THERE);
        DUE.is("the interpreter finds it", Due.interpreted(desk, 5, 1, 8, 0), "16");
        desk.compile(0);
        DUE.is("the IMAGE has no more for it", Due.ran(desk, 3, 1, 0, 0), Due.NOT_THERE);
        desk.load();
        DUE.is("loaded anew it has", Due.ran(desk, 3, 1, 0, 0), "2");
        DUE.is("and through both", Due.ran(desk, 5, 2, 8, 0), "8");
        desk.drop(1);
        desk.load();
        DUE.is("what was found is not kept for the next IMAGE", Due.ran(desk, 5, 2, 8, 0), Due.NOT_THERE);
        Due.defined(desk, 3, 3, "SUB VAR2 VAR1");
        desk.compile(3);
        desk.load();
        DUE.is("another FUNCTION 3", Due.ran(desk, 5, 1, 1, 0), "1");
    }

    private static void forged(String form, int i, int op, int x, int y, int z, String want) {
        FaslDesk desk = Due.desk(7, 3, form);
        desk.compile(7);
        desk.forge(0, i, op);
        desk.damage(4, 0, 0);
        DUE.is(form + " forged at " + i + " into " + op + ": load()", desk.load(), 0);
        DUE.is(form + " forged at " + i + " into " + op, Due.ran(desk, 7, x, y, z), want);
    }

    private static void forgedCode() {
        String[] wants = {"23", "17", "60", "6", "2", "0", "23", "23", "160", "2"};
        for (int op = 2; op <= 11; op++) {
            forged("ADD VAR0 VAR1", 10, op, 20, 3, 0, wants[op - 2]);
        }
        forged("ADD VAR0 VAR1", 10, 5, 20, 0, 0, Due.ZERO);
        forged("ADD VAR0 VAR1", 10, 12, 20, 3, 0, "-3");
        forged("ADD VAR0 VAR1", 10, 17, 20, 3, 0, "3");
        forged("ADD VAR0 VAR1", 10, 18, 20, 3, 0, "20");
        forged("ADD VAR0 VAR1", 10, 20, 20, 3, 0, "20");
        forged("ADD VAR0 VAR1", 10, 21, 20, 3, 0, "3");
        forged("ADD VAR0 ADD VAR1 VAR2", 11, 20, 20, 3, 5, "8");
        forged("MUL NEG VAR0 NEG VAR0", 11, 21, 5, 0, 0, "-25");
        forged("MUL ADD INT1 ADD INT2 ADD INT3 INT4 NEG VAR0", 16, 19, 5, 0, 0, "25");
        forged("TIMES3 INT3 NEG VAR0", 15, 17, 5, 0, 0, "5");
        forged("TIMES3 VAR1 NEG VAR0", 15, 17, 5, 8, 0, "0");
        forged("LET3 INT0 ADD TIMES4 INT7 TIMES5 INT7 SET3 ADD VAR3 INT1 VAR3", 24, 3, 0, 0, 0, "-49");
    }
}
