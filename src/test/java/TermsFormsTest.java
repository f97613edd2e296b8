/** "Terms", first part: FUNCTIONS, their PARAMETERS and VARIABLES, and what each token may bear and does. */
public final class TermsFormsTest {
    private static final int LEAST = Integer.MIN_VALUE, MOST = Integer.MAX_VALUE;

    public static void main(String[] args) {
        Sentences terms = new Sentences("Terms", "", "CODE of a FUNCTION:");
        terms.test("FUNCTIONS 0..7", TermsFormsTest::functions);
        terms.test("have 0 to 3 PARAMETERS,", TermsFormsTest::parameters);
        terms.test("and a form: a row of at most 40 tokens (op, a),", TermsFormsTest::fortyTokens);
        terms.test("prefix;", TermsFormsTest::prefix);
        terms.test("X, Y, Z are forms.", TermsFormsTest::partsAreForms);
        terms.test("VARIABLES are 0..6:", TermsFormsTest::numbersOfVariables);
        terms.test("the PARAMETERS, 0 up,", TermsFormsTest::parametersFromZero);
        terms.test("and those of LET and TIMES.", TermsFormsTest::variablesOfLetAndTimes);
        terms.test("Where one is read or set it is a PARAMETER,", TermsFormsTest::readOrSetAsParameter);
        terms.test("or within the Y of a LET a or TIMES a;", TermsFormsTest::readOrSetWithinY);
        terms.test("the innermost one counts (all LETS and TIMES of a share VARIABLE a: it is one place).",
                TermsFormsTest::onePlace);
        terms.test("0 INT a.", TermsFormsTest::ints);
        terms.test("1 VAR a.", TermsFormsTest::vars);
        terms.test("2 ADD, 3 SUB, 4 MUL, 5 DIV, 6 REM, 7 AND, 8 OR, 9 XOR, 10 SHL, 11 SHR X Y:",
                TermsFormsTest::operations);
        terms.test("of ints of 32 bits, wrapping;", TermsFormsTest::wrapping);
        terms.test("DIV cut towards 0, REM what is left;", TermsFormsTest::cutTowardsZero);
        terms.test("by 0: ZERO;", TermsFormsTest::byZero);
        terms.test("shifts by the lowest 5 bits of Y,", TermsFormsTest::shifts);
        terms.test("SHR with the sign.", TermsFormsTest::shiftsWithTheSign);
        terms.test("12 NEG X.", TermsFormsTest::neg);
        terms.test("13 IF a X Y Z: Y if X is (a 0) zero, (1) not, (2) below 0, (3) not, (4) above 0, (5) not; else Z.",
                TermsFormsTest::ifs);
        terms.test("14 LET a X Y (a 3..6): VARIABLE a is X, then Y.", TermsFormsTest::lets);
        terms.test("15 SET a X: X; VARIABLE a is that.", TermsFormsTest::sets);
        terms.test("16 TIMES a X Y (a 3..6): VARIABLE a is the lowest 3 bits of X;", TermsFormsTest::lowestThreeBits);
        terms.test("as long as it is not 0: Y, then it is one less; then 0.", TermsFormsTest::rounds);
        terms.test("(At most two within one another;", TermsFormsTest::twoTimesWithinOneAnother);
        terms.test("within the Y of a TIMES a there is no LET a, SET a or TIMES a.)", TermsFormsTest::noneOfItsOwn);
        terms.test("17 CALL a X Y Z: X, Y, Z, then FUNCTION a with these", TermsFormsTest::callOrder);
        terms.test("(as many as it has PARAMETERS, others are not looked at);", TermsFormsTest::asManyAsParameters);
        terms.test("a is less than the number of the FUNCTION in whose form it stands.", TermsFormsTest::lowerCalls);
        terms.test("(At most two CALLS in a form,", TermsFormsTest::twoCalls);
        terms.test("none within a TIMES.)", TermsFormsTest::noCallWithinTimes);
        terms.test("A FUNCTION's other VARIABLES are 0 at first;", TermsFormsTest::zeroAtFirst);
        terms.test("each CALL has its own.", TermsFormsTest::ownVariables);
        terms.end();
    }

    private static void functions(Due due) {
        FaslDesk desk = new FaslDesk();
        for (int f = 0; f <= 7; f++) {
            Due.write(desk, "INT" + (10 + f));
            due.is("define(" + f + ", 0)", desk.define(f, 0), 1);
            due.is("compile(" + f + ")", desk.compile(f), f);
        }
        due.is("load()", desk.load(), 0);
        for (int f = 0; f <= 7; f++) {
            due.both(desk, f, 0, 0, 0, "" + (10 + f));
        }
        Due.write(desk, "INT5");
        for (int f : new int[] {-1, 8, LEAST, MOST}) {
            due.refused("define(" + f + ", 0)", desk.define(f, 0));
            due.refused("compile(" + f + ")", desk.compile(f));
            due.both(desk, f, 0, 0, 0, Due.NO_SUCH);
        }
        due.is("FUNCTIONS that have a form", desk.count(0), 8);
    }

    private static void parameters(Due due) {
        for (int n = 0; n <= 3; n++) {
            due.goes(0, n, "INT5", true);
            due.goes(0, n, "VAR" + n, false);
        }
        for (int n = 1; n <= 3; n++) {
            due.goes(0, n, "VAR" + (n - 1), true);
        }
        for (int n : new int[] {-1, 4, LEAST, MOST}) {
            due.goes(0, n, "INT5", false);
        }
    }

    private static void fortyTokens(Due due) {
        due.goes(0, 0, "INT5", true);
        due.goes(0, 0, "NEG ".repeat(38) + "INT5", true);
        due.goes(0, 0, "NEG ".repeat(39) + "INT5", true);
        FaslDesk desk = new FaslDesk();
        due.is("41 of them", Due.write(desk, "NEG ".repeat(40) + "INT5"), FaslDesk.FULL);
        due.refused("40 without an end are no form", desk.define(0, 0));
        due.refused("none are no form", new FaslDesk().define(0, 0));
        due.gives("NEG " + "SUB ".repeat(19) + "INT500" + " INT2".repeat(19), 0, 0, 0, "-462");
    }

    private static void prefix(Due due) {
        due.goes(0, 0, "SUB INT9 INT2", true);
        due.goes(0, 0, "INT9 SUB INT2", false);
        due.goes(0, 0, "INT9 INT2 SUB", false);
        due.goes(0, 0, "INT9 NEG", false);
        due.goes(0, 0, "INT9 INT2", false);
        due.gives("SUB SUB INT9 INT2 INT1", 0, 0, 0, "6");
        due.gives("SUB INT9 SUB INT2 INT1", 0, 0, 0, "8");
    }

    /** As many parts as the token takes, neither one fewer nor one more, whatever forms they are. */
    private static void partsAreForms(Due due) {
        String[] whole = {"INT1", "VAR2", "NEG INT1", "ADD INT1 INT2", "IF0 INT1 INT2 INT3", "LET5 INT1 VAR5",
            "SET0 INT1"};
        int[] parts = {0, 0, 2, 2, 2, 2, 2, 2, 2, 2, 2, 2, 1, 3, 2, 1, 2, 3};
        for (int op = 0; op <= 17; op++) {
            for (String part : whole) {
                for (int k = 0; k <= 4; k++) {
                    String a = op == 14 || op == 16 ? "3" : "0";
                    due.goes(7, 3, Due.OPS.get(op) + a + (" " + part).repeat(k), k == parts[op]);
                }
            }
        }
        due.goes(0, 0, "ADD INT1 NEG", false);
        due.goes(0, 0, "ADD NEG INT1", false);
        due.goes(0, 0, "IF0 NEG INT1 ADD INT1 INT2", false);
    }

    private static void numbersOfVariables(Due due) {
        for (int op : new int[] {1, 15}) {
            for (int a = 0; a <= 6; a++) {
                due.is("token(" + op + ", " + a + ")", new FaslDesk().token(op, a), 1);
            }
            due.refused("token(" + op + ", -1)", new FaslDesk().token(op, -1));
            due.refused("token(" + op + ", 7)", new FaslDesk().token(op, 7));
        }
        due.gives("LET3 INT3 LET4 INT4 LET5 INT5 LET6 INT6 ADD MUL VAR3 VAR4 ADD MUL VAR5 VAR6 MUL VAR0 VAR2", 7, 8, 9,
                "105");
    }

    private static void parametersFromZero(Due due) {
        due.gives("VAR0", LEAST, 2, 3, "" + LEAST);
        due.gives("VAR1", 1, -1, 3, "-1");
        due.gives("VAR2", 1, 2, MOST, "" + MOST);
        FaslDesk desk = Due.desk(0, 1, "VAR0");
        due.is("with one PARAMETER", Due.interpreted(desk, 0, 4, 5, 6), "4");
    }

    private static void variablesOfLetAndTimes(Due due) {
        for (int v = 3; v <= 6; v++) {
            due.gives("LET" + v + " INT9 VAR" + v, 0, 0, 0, "9");
            due.gives("ADD TIMES" + v + " INT1 SET0 VAR" + v + " VAR0", 0, 0, 0, "1");
        }
    }

    private static void readOrSetAsParameter(Due due) {
        for (int n = 0; n <= 3; n++) {
            for (int v = 0; v <= 6; v++) {
                due.goes(0, n, "VAR" + v, v < n);
                due.goes(0, n, "SET" + v + " INT1", v < n);
                due.goes(0, n, "IF0 INT1 INT2 NEG VAR" + v, v < n);
            }
        }
    }

    private static void readOrSetWithinY(Due due) {
        for (int v = 3; v <= 6; v++) {
            for (String of : new String[] {"LET" + v, "TIMES" + v}) {
                due.goes(0, 0, of + " INT1 VAR" + v, true);
                due.goes(0, 0, of + " INT1 ADD NEG VAR" + v + " VAR" + v, true);
                due.goes(0, 0, of + " VAR" + v + " INT1", false);
                due.goes(0, 0, of + " INT1 VAR" + (v == 6 ? 3 : v + 1), false);
                due.goes(0, 0, "ADD " + of + " INT1 INT2 VAR" + v, false);
                due.goes(0, 0, "ADD VAR" + v + " " + of + " INT1 INT2", false);
                due.goes(0, 0, "ADD " + of + " INT1 INT2 SET" + v + " INT3", false);
            }
            due.goes(0, 0, "LET" + v + " INT1 SET" + v + " INT2", true);
            due.goes(0, 0, "LET" + v + " SET" + v + " INT2 INT1", false);
        }
        due.goes(0, 0, "LET3 INT1 LET4 VAR3 ADD VAR3 VAR4", true);
        due.goes(0, 0, "LET3 INT1 TIMES4 VAR3 ADD VAR3 VAR4", true);
        due.goes(0, 0, "LET3 INT1 LET3 VAR3 VAR3", true);
    }

    private static void onePlace(Due due) {
        due.gives("LET3 INT1 LET3 INT10 VAR3", 0, 0, 0, "10");
        due.gives("LET3 INT1 ADD LET3 INT10 VAR3 VAR3", 0, 0, 0, "20");
        due.gives("LET3 INT1 ADD VAR3 LET3 INT10 VAR3", 0, 0, 0, "11");
        due.gives("LET3 INT1 ADD LET3 INT10 SET3 INT4 VAR3", 0, 0, 0, "8");
        due.gives("LET3 INT1 LET3 ADD VAR3 INT1 VAR3", 0, 0, 0, "2");
        due.gives("LET3 INT7 ADD TIMES3 INT2 INT1 VAR3", 0, 0, 0, "0");
        due.gives("LET3 INT3 ADD TIMES3 VAR3 SET0 ADD VAR0 VAR3 VAR0", 0, 0, 0, "6");
        due.gives("LET3 INT1 LET4 INT2 SUB VAR3 VAR4", 0, 0, 0, "-1");
    }

    private static void ints(Due due) {
        for (int a : new int[] {LEAST, -32769, -32768, -129, -128, -1, 0, 5, 6, 127, 128, 32767, 32768, 65536, MOST}) {
            due.gives("INT" + a, 1, 2, 3, "" + a);
        }
    }

    private static void vars(Due due) {
        due.gives("VAR1", 1, LEAST, 3, "" + LEAST);
        due.gives("SUB VAR2 VAR0", 1, 2, 30, "29");
        due.gives("ADD VAR0 SET0 INT5", 1, 0, 0, "6");
        due.gives("ADD SET0 INT5 VAR0", 1, 0, 0, "10");
    }

    private static void operations(Due due) {
        int[] wants = {-18, -28, -115, -4, -3, 1, -19, -20, -736, -1};
        for (int op = 2; op <= 11; op++) {
            due.gives(Due.OPS.get(op) + " VAR0 VAR1", -23, 5, 0, "" + wants[op - 2]);
        }
    }

    private static void operation(Due due, String op, int x, int y, int want) {
        due.gives(op + " VAR0 VAR1", x, y, 0, "" + want);
    }

    private static void wrapping(Due due) {
        operation(due, "ADD", MOST, 1, LEAST);
        operation(due, "ADD", LEAST, LEAST, 0);
        operation(due, "ADD", MOST, MOST, -2);
        operation(due, "SUB", LEAST, 1, MOST);
        operation(due, "SUB", 0, LEAST, LEAST);
        operation(due, "MUL", 65536, 65536, 0);
        operation(due, "MUL", MOST, 2, -2);
        operation(due, "MUL", LEAST, -1, LEAST);
        operation(due, "MUL", 123456789, 1000, -1097262584);
        operation(due, "DIV", LEAST, -1, LEAST);
        operation(due, "REM", LEAST, -1, 0);
        operation(due, "SHL", MOST, 1, -2);
        due.gives("NEG VAR0", LEAST, 0, 0, "" + LEAST);
    }

    private static void cutTowardsZero(Due due) {
        operation(due, "DIV", 7, 2, 3);
        operation(due, "DIV", -7, 2, -3);
        operation(due, "DIV", 7, -2, -3);
        operation(due, "DIV", -7, -2, 3);
        operation(due, "DIV", -1, 2, 0);
        operation(due, "DIV", LEAST, MOST, -1);
        operation(due, "DIV", MOST, LEAST, 0);
        operation(due, "REM", 7, 2, 1);
        operation(due, "REM", -7, 2, -1);
        operation(due, "REM", 7, -2, 1);
        operation(due, "REM", -7, -2, -1);
        operation(due, "REM", 6, 3, 0);
        operation(due, "REM", LEAST, MOST, -1);
    }

    private static void byZero(Due due) {
        for (int x : new int[] {LEAST, -1, 0, 1, MOST}) {
            due.gives("DIV VAR0 VAR1", x, 0, 0, Due.ZERO);
            due.gives("REM VAR0 VAR1", x, 0, 0, Due.ZERO);
            due.gives("DIV VAR0 VAR1", 0, x == 0 ? 2 : x, 0, "0");
            due.gives("REM VAR0 VAR1", 0, x == 0 ? 2 : x, 0, "0");
        }
        due.gives("ADD INT1 NEG DIV INT1 SUB VAR0 VAR0", 5, 0, 0, Due.ZERO);
    }

    private static void shifts(Due due) {
        int[][] wants = {{0, 3}, {1, 6}, {31, LEAST}, {32, 3}, {33, 6}, {63, LEAST}, {64, 3}, {-1, LEAST}, {-31, 6},
            {-32, 3}, {LEAST, 3}, {MOST, LEAST}};
        for (int[] want : wants) {
            operation(due, "SHL", 3, want[0], want[1]);
        }
        int[][] backs = {{0, 96}, {5, 3}, {31, 0}, {32, 96}, {37, 3}, {-27, 3}, {-1, 0}, {LEAST, 96}};
        for (int[] want : backs) {
            operation(due, "SHR", 96, want[0], want[1]);
        }
    }

    private static void shiftsWithTheSign(Due due) {
        operation(due, "SHR", -8, 1, -4);
        operation(due, "SHR", -8, 33, -4);
        operation(due, "SHR", -1, 31, -1);
        operation(due, "SHR", LEAST, 31, -1);
        operation(due, "SHR", LEAST, 0, LEAST);
        operation(due, "SHR", MOST, 30, 1);
    }

    private static void neg(Due due) {
        due.gives("NEG VAR0", 5, 0, 0, "-5");
        due.gives("NEG VAR0", 0, 0, 0, "0");
        due.gives("NEG VAR0", MOST, 0, 0, "" + -MOST);
        due.gives("NEG VAR0", LEAST, 0, 0, "" + LEAST);
        due.gives("NEG NEG VAR0", 5, 0, 0, "5");
    }

    private static void ifs(Due due) {
        int[] values = {LEAST, -1, 0, 1, MOST};
        String[] wants = {"ZZYZZ", "YYZYY", "YYZZZ", "ZZYYY", "ZZZYY", "YYYZZ"};
        for (int a = 0; a <= 5; a++) {
            for (int k = 0; k < values.length; k++) {
                boolean isY = wants[a].charAt(k) == 'Y';
                due.gives("IF" + a + " VAR0 VAR1 VAR2", values[k], 50, 60, isY ? "50" : "60");
                // What is not chosen is not done.
                due.gives("IF" + a + " VAR0 VAR1 DIV VAR1 INT0", values[k], 50, 0, isY ? "50" : Due.ZERO);
                due.gives("IF" + a + " VAR0 DIV VAR1 INT0 VAR1", values[k], 50, 0, isY ? Due.ZERO : "50");
            }
        }
        due.refused("token(13, -1)", new FaslDesk().token(13, -1));
        due.refused("token(13, 6)", new FaslDesk().token(13, 6));
    }

    private static void onlyThreeToSix(Due due, int op) {
        for (int a = -1; a <= 8; a++) {
            due.is("token(" + op + ", " + a + ")", new FaslDesk().token(op, a), a >= 3 && a <= 6 ? 1 : -1);
        }
    }

    private static void lets(Due due) {
        onlyThreeToSix(due, 14);
        for (int a = 3; a <= 6; a++) {
            due.gives("LET" + a + " ADD VAR0 INT1 MUL VAR" + a + " VAR" + a, 4, 0, 0, "25");
        }
        due.gives("LET3 SET0 INT8 SUB VAR0 VAR3", 4, 0, 0, "0");
        due.gives("LET3 INT5 INT6", 0, 0, 0, "6");
        due.gives("LET3 DIV INT1 INT0 INT6", 0, 0, 0, Due.ZERO);
    }

    private static void sets(Due due) {
        due.gives("SET0 INT5", 1, 0, 0, "5");
        due.gives("SUB SET0 ADD VAR0 INT1 SET0 ADD VAR0 INT1", 7, 0, 0, "-1");
        due.gives("ADD SET2 INT5 MUL VAR2 VAR1", 1, 10, 3, "55");
        due.gives("LET6 INT1 ADD SET6 SET6 INT3 VAR6", 0, 0, 0, "6");
        due.gives("IF0 SET1 VAR0 VAR1 INT9", 0, 4, 0, "0");
    }

    /** How many rounds there are is counted in PARAMETER 1. */
    private static void lowestThreeBits(Due due) {
        onlyThreeToSix(due, 16);
        int[][] wants = {{0, 0}, {1, 1}, {6, 6}, {7, 7}, {8, 0}, {9, 1}, {15, 7}, {16, 0}, {-1, 7}, {-7, 1}, {-8, 0},
            {LEAST, 0}, {MOST, 7}};
        for (int a = 3; a <= 6; a++) {
            for (int[] want : wants) {
                due.gives("ADD TIMES" + a + " VAR0 SET1 ADD VAR1 INT1 VAR1", want[0], 0, 0, "" + want[1]);
            }
        }
    }

    private static void rounds(Due due) {
        due.gives("ADD TIMES3 INT4 SET0 ADD MUL VAR0 INT10 VAR3 VAR0", 0, 0, 0, "4321");
        due.gives("TIMES3 INT0 DIV INT1 INT0", 0, 0, 0, "0");
        due.gives("TIMES3 INT1 DIV INT1 INT0", 0, 0, 0, Due.ZERO);
        due.gives("TIMES3 INT3 DIV INT1 SUB VAR3 INT1", 0, 0, 0, Due.ZERO);
        due.gives("TIMES3 INT5 INT9", 0, 0, 0, "0");
        due.gives("SUB INT5 TIMES3 INT2 INT9", 0, 0, 0, "5");
        due.gives("LET3 INT7 ADD TIMES3 INT2 INT1 VAR3", 0, 0, 0, "0");
        due.gives("ADD TIMES4 INT7 TIMES5 INT7 SET0 ADD VAR0 INT1 VAR0", 0, 0, 0, "49");
        due.gives("ADD TIMES4 INT6 TIMES5 VAR4 SET0 ADD VAR0 VAR5 VAR0", 0, 0, 0, "56");
    }

    private static void twoTimesWithinOneAnother(Due due) {
        due.goes(0, 0, "TIMES3 INT1 TIMES4 INT2 ADD VAR3 VAR4", true);
        due.goes(0, 0, "TIMES3 INT1 TIMES4 INT2 TIMES5 INT3 INT4", false);
        due.goes(0, 0, "TIMES3 INT1 NEG TIMES4 INT2 NEG TIMES5 INT3 INT4", false);
        due.goes(0, 0, "TIMES3 INT1 LET6 INT1 TIMES4 INT2 LET6 INT1 TIMES5 INT3 INT4", false);
        due.goes(0, 0, "TIMES3 INT1 ADD TIMES4 INT2 INT3 TIMES5 INT2 INT3", true);
        due.goes(0, 0, "ADD TIMES3 INT1 TIMES4 INT2 INT3 TIMES5 INT1 TIMES6 INT2 INT3", true);
    }

    private static void noneOfItsOwn(Due due) {
        for (int a = 3; a <= 6; a++) {
            String y = "TIMES" + a + " INT1 ";
            String other = a == 6 ? "3" : "" + (a + 1);
            due.goes(0, 0, y + "LET" + a + " INT2 INT3", false);
            due.goes(0, 0, y + "SET" + a + " INT2", false);
            due.goes(0, 0, y + "TIMES" + a + " INT2 INT3", false);
            due.goes(0, 0, y + "NEG LET" + other + " SET" + a + " INT2 INT3", false);
            due.goes(0, 0, y + "TIMES" + other + " INT2 LET" + a + " INT2 INT3", false);
            due.goes(0, 0, "LET" + a + " INT1 " + y + "SET" + a + " INT2", false);
            due.goes(0, 0, y + "LET" + other + " INT2 SET" + other + " VAR" + a, true);
            due.goes(0, 0, y + "TIMES" + other + " INT2 INT3", true);
            due.goes(0, 0, "LET" + a + " INT1 ADD " + y + "VAR" + a + " SET" + a + " INT4", true);
            due.goes(0, 0, "ADD " + y + "INT1 TIMES" + a + " INT1 INT2", true);
        }
    }

    /** FUNCTION 0 tells its three PARAMETERS as digits. */
    private static FaslDesk digits(String form) {
        FaslDesk desk = Due.desk(0, 3, "ADD MUL ADD MUL VAR0 INT10 VAR1 INT10 VAR2");
        Due.defined(desk, 7, 3, form);
        desk.compile(0);
        desk.compile(7);
        desk.load();
        return desk;
    }

    private static void callOrder(Due due) {
        due.both(digits("CALL0 VAR0 VAR1 VAR2"), 7, 1, 2, 3, "123");
        due.both(digits("CALL0 SET1 INT4 SET2 ADD VAR1 INT1 ADD VAR2 INT1"), 7, 1, 2, 3, "456");
        due.both(digits("CALL0 VAR2 SET2 INT8 VAR2"), 7, 1, 2, 3, "388");
        due.both(digits("NEG CALL0 INT1 INT2 CALL0 INT0 INT0 VAR0"), 7, 5, 2, 3, "-125");
        due.both(digits("CALL0 DIV INT1 VAR0 INT2 INT3"), 7, 0, 0, 0, Due.ZERO);
        FaslDesk desk = Due.desk(7, 3, "CALL0 VAR0 VAR1 DIV INT1 VAR2");
        due.is("Z comes before the FUNCTION that is not there", Due.interpreted(desk, 7, 1, 1, 0), Due.ZERO);
        due.is("then that is looked for", Due.interpreted(desk, 7, 1, 1, 1), Due.NO_SUCH);
    }

    private static void asManyAsParameters(Due due) {
        String[] forms = {"INT4", "VAR0", "ADD MUL VAR0 INT10 VAR1", "ADD MUL ADD MUL VAR0 INT10 VAR1 INT10 VAR2"};
        String[] wants = {"4", "1", "12", "123"};
        for (int n = 0; n <= 3; n++) {
            FaslDesk desk = Due.desk(0, n, forms[n]);
            Due.defined(desk, 1, 3, "CALL0 VAR0 VAR1 VAR2");
            Due.defined(desk, 2, 1, "CALL0 INT1 INT2 DIV INT3 VAR0");
            for (int f = 0; f <= 2; f++) {
                desk.compile(f);
            }
            desk.load();
            due.both(desk, 0, 1, 2, 3, wants[n]);
            due.both(desk, 1, 1, 2, 3, wants[n]);
            // It is not looked at, but done.
            due.both(desk, 2, 0, 0, 0, Due.ZERO);
        }
    }

    private static void lowerCalls(Due due) {
        for (int f = 0; f <= 7; f++) {
            for (int a = 0; a <= 7; a++) {
                due.goes(f, 0, "CALL" + a + " INT1 INT2 INT3", a < f);
                due.goes(f, 0, "NEG IF0 INT1 INT2 CALL" + a + " INT1 INT2 INT3", a < f);
            }
        }
        due.goes(5, 0, "CALL4 CALL5 INT1 INT2 INT3 INT2 INT3", false);
    }

    private static void twoCalls(Due due) {
        String call = " CALL0 INT1 INT2 INT3";
        due.goes(7, 0, "IF0 INT1 INT2" + call, true);
        due.goes(7, 0, "IF0 INT1" + call + call, true);
        due.goes(7, 0, "IF0" + call + call + call, false);
        due.goes(7, 0, "CALL6 CALL5 INT1 INT2 INT3 INT2 INT3", true);
        due.goes(7, 0, "CALL6 CALL5 CALL4 INT1 INT2 INT3 INT2 INT3 INT2 INT3", false);
        due.goes(7, 0, "CALL6" + call + " INT2" + call, false);
        due.goes(7, 0, "ADD" + call + " ADD" + call + call, false);
    }

    private static void noCallWithinTimes(Due due) {
        String call = " CALL0 INT1 INT2 INT3";
        due.goes(7, 0, "TIMES3 INT1" + call, false);
        due.goes(7, 0, "TIMES3 INT1 ADD INT1 NEG" + call, false);
        due.goes(7, 0, "TIMES3 INT1 TIMES4 INT1" + call, false);
        due.goes(7, 0, "TIMES3 INT1 LET4" + call + " INT1", false);
        due.goes(7, 0, "ADD TIMES3 INT1 INT2" + call, true);
        due.goes(7, 0, "ADD" + call + " TIMES3 INT1 INT2", true);
        due.goes(7, 0, "CALL0 TIMES3 INT1 INT2 INT2 INT3", true);
    }

    /** No form can read one before it is set, so the units tell it. */
    private static void zeroAtFirst(Due due) {
        for (int n = 0; n <= 3; n++) {
            FaslDesk desk = Due.desk(0, n, "INT9");
            desk.compile(0);
            for (int v = n; v <= 6; v++) {
                due.is("PUSH", desk.unit(0, 2 * (v - n), 0) + " " + desk.unit(0, 2 * (v - n), 1), "0 0");
                due.is("STORE", desk.unit(0, 2 * (v - n) + 1, 0) + " " + desk.unit(0, 2 * (v - n) + 1, 1), "13 " + v);
            }
        }
    }

    private static void ownVariables(Due due) {
        FaslDesk desk = Due.desk(0, 1, "LET3 INT77 ADD SET0 INT88 SET3 INT99");
        Due.defined(desk, 1, 2, "LET3 VAR0 ADD CALL0 VAR0 VAR1 VAR1 ADD VAR0 ADD VAR1 VAR3");
        Due.defined(desk, 2, 1, "ADD CALL1 VAR0 INT20 INT0 CALL1 VAR0 INT30 INT0");
        for (int f = 0; f <= 2; f++) {
            desk.compile(f);
        }
        desk.load();
        due.both(desk, 1, 1, 2, 3, "" + (187 + 1 + 2 + 1));
        due.both(desk, 2, 5, 0, 0, "" + (187 + 5 + 20 + 5 + 187 + 5 + 30 + 5));
        due.both(desk, 1, 1, 2, 3, "" + (187 + 1 + 2 + 1));
    }
}
