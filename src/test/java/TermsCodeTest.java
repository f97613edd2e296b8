/** "Terms", second part: UNITS, the CODE that a form becomes, and its STACK. */
public final class TermsCodeTest {
    public static void main(String[] args) {
        Sentences terms = new Sentences("Terms", "CODE of a FUNCTION:", "THE ARCHIVE:");
        terms.test("CODE of a FUNCTION: UNITS from 0 on:", TermsCodeTest::unitsFromZero);
        terms.test("0 PUSH a", TermsCodeTest::push);
        terms.test("1 LOAD a", TermsCodeTest::load);
        terms.test("2..11 as above (two from the STACK, the second on top, what comes of it on the STACK)",
                TermsCodeTest::operations);
        terms.test("12 NEG", TermsCodeTest::neg);
        terms.test("13 STORE a", TermsCodeTest::store);
        terms.test("14 IF a b: takes one from the STACK;", TermsCodeTest::ifTakesOne);
        terms.test("if it is NOT as said with a (see 13 above) it goes on at UNIT b", TermsCodeTest::ifGoesOn);
        terms.test("15 GO b", TermsCodeTest::go);
        terms.test("16 CALL a: takes three (the third on top)", TermsCodeTest::callTakesThree);
        terms.test("17 GIVE: the one on top is what comes of it", TermsCodeTest::give);
        terms.test("18 POP", TermsCodeTest::pop);
        terms.test("19 DUP", TermsCodeTest::dup);
        terms.test("20 SWAP", TermsCodeTest::swap);
        terms.test("21 NOTHING.", TermsCodeTest::nothing);
        terms.test("It is: PUSH 0 and STORE v for each VARIABLE v from the number of PARAMETERS up to 6;",
                TermsCodeTest::variablesFirst);
        terms.test("then the form; then GIVE.", TermsCodeTest::formThenGive);
        terms.test("A form: INT: PUSH. VAR: LOAD.", TermsCodeTest::ofLeaves);
        terms.test("Operations: X, Y, the UNIT. NEG: X, NEG.", TermsCodeTest::ofOperations);
        terms.test("IF: X, IF to behind the GO, Y, GO to the end, Z.", TermsCodeTest::ofIf);
        terms.test("LET: X, STORE, Y. SET: X, DUP, STORE.", TermsCodeTest::ofLetAndSet);
        terms.test("TIMES: X, PUSH 7, AND, STORE a; then LOAD a, IF 1 (to the end of the loop), Y, POP, LOAD a, PUSH 1,"
                + " SUB, STORE a, GO to that LOAD; then PUSH 0.", TermsCodeTest::ofTimes);
        terms.test("CALL: X, Y, Z, CALL.", TermsCodeTest::ofCall);
        terms.test("STACK is the most that is on it there.", TermsCodeTest::stack);
        terms.end();
    }

    private static void unitsFromZero(Due due) {
        FaslDesk desk = Due.desk(7, 3, "INT9");
        desk.compile(7);
        due.is("UNITS", Due.units(desk, 0, 0),
                "PUSH 0,STORE 3,PUSH 0,STORE 4,PUSH 0,STORE 5,PUSH 0,STORE 6,PUSH 9,GIVE");
        due.is("how many", desk.entry(0, 2), 10);
        due.refused("unit(0, -1, 0)", desk.unit(0, -1, 0));
        due.refused("unit(0, 10, 0)", desk.unit(0, 10, 0));
    }

    private static void push(Due due) {
        for (int a : new int[] {Integer.MIN_VALUE, -1, 0, 1, 22, Integer.MAX_VALUE}) {
            due.becomes("INT" + a, 1, "PUSH " + a);
            due.is("run", Due.ran(loaded(due, "INT" + a), 7, 1, 2, 3), "" + a);
        }
    }

    private static void load(Due due) {
        for (int a = 0; a <= 2; a++) {
            due.becomes("VAR" + a, 1, "LOAD " + a);
            due.is("run", Due.ran(loaded(due, "VAR" + a), 7, 10, 11, 12), "" + (10 + a));
        }
        due.is("run", Due.ran(loaded(due, "LET6 INT8 VAR6"), 7, 10, 11, 12), "8");
    }

    /** FUNCTION 7 with three PARAMETERS (its form begins at unit 8), with forged units, in the IMAGE. */
    private static FaslDesk loaded(Due due, String form, int... forged) {
        FaslDesk desk = Due.forged(form, forged);
        due.is("load() of " + form, desk.load(), 0);
        return desk;
    }

    private static void fails(Due due, String form, int... forged) {
        due.is("load() of " + form, Due.forged(form, forged).load(), 8);
    }

    private static void operations(Due due) {
        int[] wants = {-18, -28, -115, -4, -3, 1, -19, -20, -736, -1};
        for (int op = 2; op <= 11; op++) {
            due.is("unit " + op, Due.ran(loaded(due, "OR VAR0 VAR1", 10, op), 7, -23, 5, 0), "" + wants[op - 2]);
            fails(due, "NEG VAR0", 9, op);
            // One is left of two: GIVE finds one, and not two.
            fails(due, "NEG OR VAR0 VAR1", 10, op, 11, op);
        }
        due.is("DIV by 0", Due.ran(loaded(due, "OR VAR0 VAR1", 10, 5), 7, 1, 0, 0), Due.ZERO);
        due.is("REM by 0", Due.ran(loaded(due, "OR VAR0 VAR1", 10, 6), 7, 1, 0, 0), Due.ZERO);
    }

    private static void neg(Due due) {
        due.is("of the one on top", Due.ran(loaded(due, "OR VAR0 VAR1", 10, 12), 7, 3, 5, 0), "-5");
        due.is("of the only one", Due.ran(loaded(due, "NEG VAR0"), 7, Integer.MIN_VALUE, 0, 0), "-2147483648");
        fails(due, "NEG NEG VAR0", 9, 18, 10, 12);
    }

    private static void store(Due due) {
        due.becomes("SET1 VAR0", 2, "LOAD 0,DUP,STORE 1");
        due.is("it is set", Due.ran(loaded(due, "ADD SET1 VAR0 VAR1"), 7, 4, 9, 0), "8");
        // Without the DUP, STORE takes the only one.
        fails(due, "SET1 VAR0", 9, 21);
        fails(due, "SET1 VAR0", 9, 18);
    }

    private static void ifTakesOne(Due due) {
        due.is("one is enough", Due.forged("IF0 VAR0 INT1 INT2").load(), 0);
        fails(due, "IF0 NEG VAR0 INT1 INT2", 9, 18);
        // It is taken: behind the IF GIVE finds none.
        fails(due, "IF0 VAR0 NEG VAR1 INT2", 11, 18);
        due.becomes("IF0 VAR0 INT1 INT2", 1, "LOAD 0,IF 0 12,PUSH 1,GO 13,PUSH 2");
    }

    private static void ifGoesOn(Due due) {
        int[] values = {Integer.MIN_VALUE, -1, 0, 1, Integer.MAX_VALUE};
        String[] wants = {"ZZYZZ", "YYZYY", "YYZZZ", "ZZYYY", "ZZZYY", "YYYZZ"};
        for (int a = 0; a <= 5; a++) {
            FaslDesk desk = loaded(due, "IF" + a + " VAR0 INT50 INT60");
            for (int k = 0; k < values.length; k++) {
                due.is("IF " + a + " of " + values[k], Due.ran(desk, 7, values[k], 0, 0),
                        wants[a].charAt(k) == 'Y' ? "50" : "60");
            }
        }
    }

    private static void go(Due due) {
        FaslDesk desk = loaded(due, "ADD IF0 VAR0 INT50 DIV INT1 VAR0 INT7");
        due.is("GO", desk.unit(0, 11, 0) + " to " + desk.unit(0, 11, 1), "15 to 15");
        due.is("what is leapt over is not done", Due.ran(desk, 7, 0, 0, 0), "57");
        due.is("the other way", Due.ran(desk, 7, 1, 0, 0), "8");
    }

    private static void callTakesThree(Due due) {
        String[] wants = {"132", "123"};
        int[] ops = {20, 21};
        for (int k = 0; k < 2; k++) {
            FaslDesk desk = Due.forged("CALL0 VAR0 VAR1 NEG VAR2", 11, ops[k]);
            Due.defined(desk, 0, 3, "ADD MUL ADD MUL VAR0 INT10 VAR1 INT10 VAR2");
            desk.compile(0);
            due.is("load()", desk.load(), 0);
            due.is("the third is on top", Due.ran(desk, 7, 1, 2, 3), wants[k]);
        }
        fails(due, "CALL0 VAR0 VAR1 NEG VAR2", 11, 18);
        fails(due, "CALL0 VAR0 VAR1 NEG VAR2", 11, 2);
        // One is left of three: a further NEG as POP leaves none.
        fails(due, "NEG CALL0 VAR0 VAR1 VAR2", 12, 18);
        due.is("one is left", Due.forged("NEG CALL0 VAR0 VAR1 VAR2").load(), 0);
    }

    private static void give(Due due) {
        due.is("of two the one on top", Due.ran(loaded(due, "SUB VAR0 VAR1", 10, 17), 7, 3, 5, 0), "5");
        due.is("nothing behind it is done", Due.ran(loaded(due, "DIV VAR0 NEG VAR1", 10, 17), 7, 3, 0, 0), "0");
        due.is("out of a loop", Due.ran(loaded(due, "TIMES3 INT3 NEG VAR3", 15, 17), 7, 0, 0, 0), "3");
        fails(due, "NEG VAR0", 9, 18);
    }

    private static void pop(Due due) {
        due.is("the one below is left", Due.ran(loaded(due, "SUB VAR0 VAR1", 10, 18), 7, 3, 5, 0), "3");
        fails(due, "NEG NEG VAR0", 9, 18, 10, 18);
    }

    private static void dup(Due due) {
        String form = "MUL ADD INT1 ADD INT2 ADD INT3 INT4 NEG VAR0";
        due.is("twice the same", Due.ran(loaded(due, form, 16, 19), 7, 5, 0, 0), "25");
        fails(due, "NEG NEG NEG VAR0", 9, 18, 10, 19);
        fails(due, "NEG VAR0", 9, 19);
    }

    private static void swap(Due due) {
        due.is("the one below is on top", Due.ran(loaded(due, "SUB VAR0 VAR1", 10, 20), 7, 3, 5, 0), "3");
        due.is("and the other below it", Due.ran(loaded(due, "SUB VAR0 ADD VAR1 VAR2", 11, 20), 7, 3, 5, 9), "4");
        fails(due, "NEG VAR0", 9, 20);
    }

    private static void nothing(Due due) {
        due.is("as if it were not there", Due.ran(loaded(due, "NEG VAR0", 9, 21), 7, 5, 0, 0), "5");
        due.is("the two are left", Due.ran(loaded(due, "SUB VAR0 VAR1", 10, 21), 7, 3, 5, 0), "5");
        due.is("amid others", Due.ran(loaded(due, "SUB NEG VAR0 VAR1", 9, 21), 7, 3, 5, 0), "-2");
    }

    private static void variablesFirst(Due due) {
        for (int n = 0; n <= 3; n++) {
            FaslDesk desk = Due.desk(0, n, "INT9");
            StringBuilder want = new StringBuilder();
            for (int v = n; v <= 6; v++) {
                want.append("PUSH 0,STORE ").append(v).append(',');
            }
            desk.compile(0);
            due.is("units with " + n + " PARAMETERS", Due.units(desk, 0, 0), want + "PUSH 9,GIVE");
            due.is("how many", desk.entry(0, 2), 2 * (7 - n) + 2);
        }
    }

    private static void formThenGive(Due due) {
        for (String form : new String[] {"INT1", "NEG VAR0", "IF0 VAR0 INT1 INT2", "TIMES3 INT1 INT2", "SET0 INT1"}) {
            FaslDesk desk = Due.desk(7, 3, form);
            desk.compile(7);
            String units = Due.units(desk, 0, 8);
            due.is("GIVE stands once in " + units, units.indexOf("GIVE"), units.length() - 4);
        }
        due.becomes("INT1", 1, "PUSH 1");
    }

    private static void ofLeaves(Due due) {
        due.becomes("INT-5", 1, "PUSH -5");
        due.becomes("VAR0", 1, "LOAD 0");
        due.becomes("VAR2", 1, "LOAD 2");
    }

    private static void ofOperations(Due due) {
        for (String op : Due.OPS.subList(2, 12)) {
            due.becomes(op + "77 INT1 VAR2", 2, "PUSH 1,LOAD 2," + op);
            due.becomes(op + " NEG INT1 " + op + " INT2 INT3", 3, "PUSH 1,NEG,PUSH 2,PUSH 3," + op + "," + op);
        }
        due.becomes("NEG77 INT1", 1, "PUSH 1,NEG");
        due.becomes("NEG NEG INT1", 1, "PUSH 1,NEG,NEG");
    }

    private static void ofIf(Due due) {
        for (int a = 0; a <= 5; a++) {
            due.becomes("IF" + a + " VAR0 INT1 INT2", 1, "LOAD 0,IF " + a + " 12,PUSH 1,GO 13,PUSH 2");
        }
        due.becomes("IF1 VAR0 NEG INT1 NEG NEG INT2", 1, "LOAD 0,IF 1 13,PUSH 1,NEG,GO 16,PUSH 2,NEG,NEG");
        due.becomes("IF1 VAR0 IF2 VAR1 INT1 INT2 INT3", 1,
                "LOAD 0,IF 1 16,LOAD 1,IF 2 14,PUSH 1,GO 15,PUSH 2,GO 17,PUSH 3");
        due.becomes("IF1 VAR0 INT1 IF2 VAR1 INT2 INT3", 1,
                "LOAD 0,IF 1 12,PUSH 1,GO 17,LOAD 1,IF 2 16,PUSH 2,GO 17,PUSH 3");
        due.becomes("IF1 IF2 VAR1 INT2 INT3 INT4 INT5", 1,
                "LOAD 1,IF 2 12,PUSH 2,GO 13,PUSH 3,IF 1 16,PUSH 4,GO 17,PUSH 5");
    }

    private static void ofLetAndSet(Due due) {
        for (int a = 3; a <= 6; a++) {
            due.becomes("LET" + a + " INT1 VAR" + a, 1, "PUSH 1,STORE " + a + ",LOAD " + a);
            due.becomes("LET" + a + " INT1 SET" + a + " INT2", 2, "PUSH 1,STORE " + a + ",PUSH 2,DUP,STORE " + a);
        }
        due.becomes("SET0 NEG INT1", 2, "PUSH 1,NEG,DUP,STORE 0");
    }

    private static void ofTimes(Due due) {
        due.becomes("TIMES6 INT5 VAR6", 2, "PUSH 5,PUSH 7,AND,STORE 6,LOAD 6,IF 1 21,LOAD 6,POP,LOAD 6,PUSH 1,SUB,"
                + "STORE 6,GO 12,PUSH 0");
        due.becomes("TIMES3 NEG VAR0 NEG NEG VAR1", 2, "LOAD 0,NEG,PUSH 7,AND,STORE 3,LOAD 3,IF 1 24,LOAD 1,NEG,NEG,"
                + "POP,LOAD 3,PUSH 1,SUB,STORE 3,GO 13,PUSH 0");
        due.becomes("NEG TIMES3 INT2 TIMES4 VAR3 INT1", 2, "PUSH 2,PUSH 7,AND,STORE 3,LOAD 3,IF 1 34,LOAD 3,PUSH 7,AND,"
                + "STORE 4,LOAD 4,IF 1 27,PUSH 1,POP,LOAD 4,PUSH 1,SUB,STORE 4,GO 18,PUSH 0,POP,LOAD 3,PUSH 1,SUB,"
                + "STORE 3,GO 12,PUSH 0,NEG");
    }

    private static void ofCall(Due due) {
        for (int a = 0; a <= 6; a++) {
            due.becomes("CALL" + a + " VAR0 NEG VAR1 INT2", 3, "LOAD 0,LOAD 1,NEG,PUSH 2,CALL " + a);
        }
        due.becomes("CALL1 INT1 INT2 CALL0 INT3 INT4 INT5", 5,
                "PUSH 1,PUSH 2,PUSH 3,PUSH 4,PUSH 5,CALL 0,CALL 1");
    }

    private static void stackIs(Due due, String form, int want) {
        FaslDesk desk = Due.desk(7, 3, form);
        desk.compile(7);
        due.is("STACK of " + form, desk.entry(0, 3), want);
    }

    private static void stack(Due due) {
        stackIs(due, "VAR0", 1);
        stackIs(due, "ADD ADD ADD INT1 INT2 INT3 INT4", 2);
        stackIs(due, "ADD INT1 ADD INT2 ADD INT3 INT4", 4);
        stackIs(due, "ADD " + "ADD INT1 ".repeat(3) + "INT4 INT5", 4);
        stackIs(due, "SET0 INT1", 2);
        stackIs(due, "ADD INT1 SET0 INT1", 3);
        stackIs(due, "TIMES3 INT1 INT2", 2);
        stackIs(due, "ADD INT1 TIMES3 INT1 INT2", 3);
        stackIs(due, "TIMES3 INT1 ADD INT1 ADD INT2 INT3", 3);
        stackIs(due, "TIMES3 INT1 TIMES4 INT1 INT2", 2);
        stackIs(due, "CALL0 INT1 INT2 SET0 INT3", 4);
        stackIs(due, "IF0 ADD INT1 INT2 INT3 INT4", 2);
        stackIs(due, "IF0 INT1 ADD INT1 INT2 INT3", 2);
        stackIs(due, "IF0 INT1 INT2 ADD INT1 INT2", 2);
        stackIs(due, "ADD INT1 IF0 INT1 ADD INT1 INT2 ADD INT1 ADD INT2 INT3", 4);
        stackIs(due, "ADD INT1 IF0 INT1 ADD INT1 ADD INT2 INT3 ADD INT1 INT2", 4);
        stackIs(due, "LET3 ADD INT1 INT2 VAR3", 2);
        stackIs(due, "ADD INT1 ".repeat(19) + "INT2", 20);
        FaslDesk without = new FaslDesk();
        Due.defined(without, 0, 0, "INT1");
        without.compile(0);
        due.is("STACK without PARAMETERS", without.entry(0, 3), 1);
    }
}
