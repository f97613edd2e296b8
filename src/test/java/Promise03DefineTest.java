/** Promise 3: which drafts are one form as said. */
public final class Promise03DefineTest {
    private static final Due DUE = new Due();

    public static void main(String[] args) {
        shapes();
        variables();
        times();
        calls();
        draftStaysOrGoes();
        DUE.end();
    }

    private static void goes(int f, int n, String form) {
        DUE.is("define(" + f + ", " + n + ") of " + form + " goes", Due.goes(f, n, form), true);
    }

    private static void fails(int f, int n, String form) {
        DUE.is("define(" + f + ", " + n + ") of " + form + " goes", Due.goes(f, n, form), false);
    }

    private static void shapes() {
        goes(0, 0, "INT5");
        fails(0, 0, "INT5 INT5");
        for (String op : Due.OPS.subList(2, 12)) {
            goes(0, 0, op + " INT1 INT2");
            fails(0, 0, op + " INT1");
            fails(0, 0, op + " INT1 INT2 INT3");
        }
        goes(0, 0, "NEG INT1");
        fails(0, 0, "NEG");
        fails(0, 0, "NEG INT1 INT2");
        goes(0, 0, "IF0 INT1 INT2 INT3");
        fails(0, 0, "IF0 INT1 INT2");
        fails(0, 0, "IF0 INT1 INT2 INT3 INT4");
        goes(0, 0, "LET3 INT1 INT2");
        fails(0, 0, "LET3 INT1");
        goes(0, 1, "SET0 INT1");
        fails(0, 1, "SET0");
        goes(0, 0, "TIMES3 INT1 INT2");
        fails(0, 0, "TIMES3 INT1");
        goes(1, 0, "CALL0 INT1 INT2 INT3");
        fails(1, 0, "CALL0 INT1 INT2");
        fails(1, 0, "CALL0 INT1 INT2 INT3 INT4");
        for (int f : new int[] {-1, 8, Integer.MAX_VALUE, Integer.MIN_VALUE}) {
            fails(f, 0, "INT5");
        }
        for (int n : new int[] {-1, 4, 32, Integer.MIN_VALUE}) {
            fails(0, n, "INT5");
        }
        for (int f = 0; f < 8; f++) {
            goes(f, f % 4, "INT5");
        }
    }

    private static void variables() {
        for (int n = 0; n <= 3; n++) {
            for (int v = 0; v <= 6; v++) {
                DUE.is("VAR" + v + " with " + n, Due.goes(0, n, "VAR" + v), v < n);
                DUE.is("SET" + v + " with " + n, Due.goes(0, n, "SET" + v + " INT1"), v < n);
            }
        }
        for (int v = 3; v <= 6; v++) {
            goes(0, 0, "LET" + v + " INT1 VAR" + v);
            goes(0, 0, "LET" + v + " INT1 SET" + v + " INT2");
            goes(0, 0, "TIMES" + v + " INT1 VAR" + v);
            fails(0, 0, "LET" + v + " VAR" + v + " INT1");
            fails(0, 0, "TIMES" + v + " VAR" + v + " INT1");
            fails(0, 0, "LET" + v + " INT1 VAR" + (v == 6 ? 3 : v + 1));
            fails(0, 0, "ADD LET" + v + " INT1 INT2 VAR" + v);
            fails(0, 0, "ADD TIMES" + v + " INT1 INT2 VAR" + v);
        }
        goes(0, 0, "LET3 INT1 LET4 VAR3 ADD VAR3 VAR4");
        goes(0, 0, "LET3 INT1 LET3 VAR3 VAR3");
        goes(0, 0, "LET3 INT1 ADD LET3 INT2 VAR3 VAR3");
    }

    private static void times() {
        fails(0, 0, "TIMES3 INT1 SET3 INT2");
        fails(0, 0, "TIMES3 INT1 LET3 INT2 INT3");
        fails(0, 0, "TIMES3 INT1 TIMES3 INT2 INT3");
        fails(0, 0, "LET3 INT1 TIMES3 INT1 NEG SET3 INT2");
        fails(0, 0, "TIMES3 INT1 LET4 LET3 INT1 INT2 INT3");
        fails(0, 0, "TIMES3 INT1 TIMES4 SET3 INT2 INT3");
        goes(0, 0, "TIMES3 INT1 LET4 INT2 SET4 VAR3");
        goes(0, 0, "LET3 INT1 TIMES3 SET3 INT2 VAR3");
        goes(0, 0, "TIMES3 LET3 INT1 VAR3 INT2");
        goes(0, 0, "TIMES3 TIMES3 INT1 INT2 INT3");
        goes(0, 0, "LET3 INT1 ADD TIMES3 INT2 VAR3 SET3 INT4");
        goes(0, 0, "TIMES3 INT1 TIMES4 INT2 ADD VAR3 VAR4");
        fails(0, 0, "TIMES3 INT1 TIMES4 INT2 TIMES5 INT3 INT4");
        fails(0, 0, "TIMES3 INT1 NEG TIMES4 INT2 NEG TIMES5 INT3 INT4");
        goes(0, 0, "ADD TIMES3 INT1 TIMES4 INT2 INT3 TIMES3 INT1 TIMES4 INT2 INT3");
        goes(0, 0, "TIMES3 INT1 ADD TIMES4 INT2 INT3 TIMES4 INT2 INT3");
    }

    private static void calls() {
        for (int f = 0; f < 8; f++) {
            for (int a = 0; a < 8; a++) {
                DUE.is("CALL" + a + " in " + f, Due.goes(f, 0, "CALL" + a + " INT1 INT2 INT3"), a < f);
            }
        }
        goes(7, 0, "CALL6 CALL5 INT1 INT2 INT3 INT2 INT3");
        goes(7, 0, "ADD CALL6 INT1 INT2 INT3 CALL6 INT1 INT2 INT3");
        fails(7, 0, "CALL6 CALL5 INT1 INT2 INT3 INT2 CALL4 INT1 INT2 INT3");
        fails(7, 0, "IF0 CALL1 INT1 INT2 INT3 CALL2 INT1 INT2 INT3 CALL3 INT1 INT2 INT3");
        fails(7, 0, "TIMES3 INT1 CALL0 INT1 INT2 INT3");
        fails(7, 0, "TIMES3 INT1 ADD INT1 CALL0 INT1 INT2 INT3");
        goes(7, 0, "ADD TIMES3 INT1 INT2 CALL0 INT1 INT2 INT3");
        goes(7, 0, "CALL0 TIMES3 INT1 INT2 INT2 INT3");
        goes(7, 0, "LET3 CALL0 INT1 INT2 INT3 IF1 VAR3 CALL1 INT1 INT2 INT3 INT4");
    }

    private static void draftStaysOrGoes() {
        FaslDesk desk = new FaslDesk();
        Due.write(desk, "ADD VAR1");
        DUE.refused("half a form", desk.define(3, 2));
        DUE.is("it stays", desk.count(7), 2);
        DUE.refused("define(8, 2)", desk.define(8, 2));
        desk.token(0, 4);
        DUE.refused("too few PARAMETERS", desk.define(3, 1));
        DUE.refused("too many PARAMETERS", desk.define(3, 4));
        DUE.is("no form yet", desk.count(0), 0);
        DUE.is("the whole one", desk.define(3, 2), 3);
        DUE.is("the draft is empty then", desk.count(7), 0);
        DUE.is("one form", desk.count(0), 1);
        DUE.is("it runs", Due.interpreted(desk, 3, 10, 20, 30), "24");
        Due.write(desk, "ADD INT1");
        DUE.refused("a bad form leaves the old one", desk.define(3, 0));
        DUE.is("it runs still", Due.interpreted(desk, 3, 10, 20, 30), "24");
        desk.clear();
        Due.write(desk, "INT77");
        DUE.is("another form for it", desk.define(3, 0), 1);
        DUE.is("the new one runs", Due.interpreted(desk, 3, 10, 20, 30), "77");
        DUE.is("still one form", desk.count(0), 1);
    }
}
