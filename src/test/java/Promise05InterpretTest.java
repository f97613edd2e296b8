/** Promise 5: what comes of forms; the compiled code has to give the same (promise 11). */
public final class Promise05InterpretTest {
    private static final Due DUE = new Due();
    private static final int LEAST = Integer.MIN_VALUE, MOST = Integer.MAX_VALUE;

    public static void main(String[] args) {
        operations();
        tests();
        variables();
        loops();
        calls();
        failures();
        DUE.end();
    }

    /** The form as that of FUNCTION 7 with three PARAMETERS, interpreted and compiled. */
    private static void gives(String form, int x, int y, int z, String want) {
        FaslDesk desk = Due.desk(7, 3, form);
        DUE.is("interpreted " + form + " of " + x + " " + y + " " + z, Due.interpreted(desk, 7, x, y, z), want);
        desk.compile(7);
        DUE.is("load()", desk.load(), 0);
        DUE.is("compiled " + form + " of " + x + " " + y + " " + z, Due.ran(desk, 7, x, y, z), want);
    }

    private static void operation(String op, int x, int y, int want) {
        gives(op + " VAR0 VAR1", x, y, 0, Integer.toString(want));
    }

    private static void operations() {
        gives("INT" + LEAST, 0, 0, 0, "" + LEAST);
        gives("VAR2", 1, 2, 3, "3");
        operation("ADD", MOST, 1, LEAST);
        operation("SUB", LEAST, 1, MOST);
        operation("SUB", 3, 10, -7);
        operation("MUL", 65536, 65536, 0);
        operation("MUL", 123456789, 1000, -1097262584);
        operation("DIV", -7, 2, -3);
        operation("DIV", 7, -2, -3);
        operation("DIV", LEAST, -1, LEAST);
        operation("REM", -7, 2, -1);
        operation("REM", 7, -2, 1);
        operation("REM", LEAST, -1, 0);
        operation("AND", 12, 10, 8);
        operation("OR", 12, 10, 14);
        operation("XOR", 12, 10, 6);
        operation("SHL", 1, 31, LEAST);
        operation("SHL", 1, 33, 2);
        operation("SHL", 1, -1, LEAST);
        operation("SHR", -8, 1, -4);
        operation("SHR", -8, 33, -4);
        operation("SHR", LEAST, -1, -1);
        gives("NEG VAR0", 5, 0, 0, "-5");
        gives("NEG VAR0", LEAST, 0, 0, "" + LEAST);
    }

    private static void tests() {
        String[] wants = {"2 1 2", "1 2 1", "1 2 2", "2 1 1", "2 2 1", "1 1 2"};
        for (int a = 0; a <= 5; a++) {
            String[] want = wants[a].split(" ");
            gives("IF" + a + " VAR0 INT1 INT2", -9, 0, 0, want[0]);
            gives("IF" + a + " VAR0 INT1 INT2", 0, 0, 0, want[1]);
            gives("IF" + a + " VAR0 INT1 INT2", 9, 0, 0, want[2]);
        }
        gives("IF0 VAR0 INT1 DIV INT1 INT0", 0, 0, 0, "1");
        gives("IF0 VAR0 DIV INT1 INT0 INT1", 1, 0, 0, "1");
        gives("IF0 VAR0 DIV INT1 INT0 INT1", 0, 0, 0, Due.ZERO);
    }

    private static void variables() {
        gives("LET3 ADD VAR0 INT1 MUL VAR3 VAR3", 4, 0, 0, "25");
        // All LETS of 3 share one place: the inner one is seen behind it, too.
        gives("LET3 INT1 ADD LET3 INT10 VAR3 VAR3", 0, 0, 0, "20");
        gives("LET3 INT1 ADD VAR3 LET3 INT10 VAR3", 0, 0, 0, "11");
        gives("LET3 INT1 LET4 INT2 SUB VAR3 VAR4", 0, 0, 0, "-1");
        gives("ADD SET0 INT5 VAR0", 1, 0, 0, "10");
        gives("ADD VAR0 SET0 INT5", 1, 0, 0, "6");
        gives("SUB SET0 ADD VAR0 INT1 SET0 ADD VAR0 INT1", 7, 0, 0, "-1");
        gives("LET6 INT1 ADD SET6 SET6 INT3 VAR6", 0, 0, 0, "6");
        gives("LET3 INT7 ADD TIMES3 INT2 INT1 VAR3", 0, 0, 0, "0");
    }

    private static void loops() {
        String sum = "LET3 INT0 ADD TIMES4 VAR0 SET3 ADD VAR3 VAR4 VAR3";
        gives(sum, 0, 0, 0, "0");
        gives(sum, 1, 0, 0, "1");
        gives(sum, 7, 0, 0, "28");
        gives(sum, 8, 0, 0, "0");
        gives(sum, 14, 0, 0, "21");
        gives(sum, -1, 0, 0, "28");
        gives("TIMES3 INT5 INT9", 0, 0, 0, "0");
        gives("SUB INT5 TIMES3 INT2 INT9", 0, 0, 0, "5");
        gives("SUB TIMES3 INT2 INT9 INT5", 0, 0, 0, "-5");
        gives("TIMES3 INT0 DIV INT1 INT0", 0, 0, 0, "0");
        gives("TIMES3 INT1 DIV INT1 INT0", 0, 0, 0, Due.ZERO);
        gives("LET3 INT0 ADD TIMES4 INT7 TIMES5 INT7 SET3 ADD VAR3 INT1 VAR3", 0, 0, 0, "49");
        gives("LET3 INT0 ADD TIMES4 INT6 TIMES5 VAR4 SET3 ADD VAR3 VAR5 VAR3", 0, 0, 0, "56");
        gives("LET3 INT3 ADD TIMES3 VAR3 SET0 ADD VAR0 VAR3 VAR0", 0, 0, 0, "6");
        gives("TIMES3 TIMES3 INT4 SET0 ADD VAR0 VAR3 DIV INT1 INT0", 0, 0, 0, "0");
    }

    private static void calls() {
        FaslDesk desk = new FaslDesk();
        Due.defined(desk, 0, 1, "ADD MUL VAR0 INT10 LET3 INT1 VAR3");
        Due.defined(desk, 1, 3, "SUB MUL VAR0 INT100 ADD MUL VAR1 INT10 VAR2");
        Due.defined(desk, 2, 0, "INT5");
        Due.defined(desk, 3, 3, "CALL1 VAR0 VAR1 VAR2");
        Due.defined(desk, 4, 3, "ADD CALL0 VAR0 DIV VAR1 VAR2 INT0 CALL2 INT1 INT2 INT3");
        Due.defined(desk, 5, 1, "LET3 INT1000 ADD CALL3 SET0 INT2 SET0 INT3 VAR0 VAR3");
        Due.defined(desk, 7, 2, "ADD CALL5 VAR0 INT0 INT0 CALL4 VAR0 INT1 VAR1");
        for (int f : new int[] {0, 1, 2, 3, 4, 5, 7}) {
            desk.compile(f);
        }
        DUE.is("load()", desk.load(), 0);
        both(desk, 0, 7, 8, 9, "71");
        both(desk, 3, 1, 2, 3, "77");
        both(desk, 4, 6, 4, 2, "66");
        both(desk, 4, 6, 4, 0, Due.ZERO);
        both(desk, 5, 1, 0, 0, "1167");
        both(desk, 7, 6, 2, 0, "1233");
        both(desk, 7, 6, 0, 0, Due.ZERO);
    }

    private static void both(FaslDesk desk, int f, int x, int y, int z, String want) {
        DUE.is("interpret " + f, Due.interpreted(desk, f, x, y, z), want);
        DUE.is("run " + f, Due.ran(desk, f, x, y, z), want);
    }

    private static void failures() {
        FaslDesk desk = new FaslDesk();
        for (int f : new int[] {-1, 8, LEAST, MOST}) {
            DUE.is("interpret " + f, Due.interpreted(desk, f, 0, 0, 0), Due.NO_SUCH);
        }
        Due.defined(desk, 2, 2, "IF0 VAR0 CALL1 INT1 DIV INT1 VAR1 INT3 INT8");
        DUE.is("the CALL is not done", Due.interpreted(desk, 2, 1, 0, 0), "8");
        DUE.is("there is no FUNCTION 1", Due.interpreted(desk, 2, 0, 1, 0), Due.NO_SUCH);
        DUE.is("its X, Y and Z come first", Due.interpreted(desk, 2, 0, 0, 0), Due.ZERO);
        Due.defined(desk, 1, 1, "NEG VAR0");
        DUE.is("now there is", Due.interpreted(desk, 2, 0, 1, 0), "-1");
        DUE.is("nothing is left of what was thrown", Due.interpreted(desk, 2, 5, 1, 0), "8");
        Due.defined(desk, 0, 1, "REM INT1 VAR0");
        DUE.is("REM by 0", Due.interpreted(desk, 0, 0, 0, 0), Due.ZERO);
        DUE.is("REM by 3", Due.interpreted(desk, 0, 3, 0, 0), "1");
        Due.defined(desk, 0, 2, "DIV NEG VAR0 VAR1");
        DUE.is("DIV by 0", Due.interpreted(desk, 0, 3, 0, 0), Due.ZERO);
    }
}
