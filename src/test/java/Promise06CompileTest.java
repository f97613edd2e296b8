/** Promise 6: the units and the STACK that a form becomes, and where its ENTRY stands. */
public final class Promise06CompileTest {
    private static final Due DUE = new Due();

    public static void main(String[] args) {
        variablesFirst();
        units();
        places();
        full();
        DUE.end();
    }

    private static void variablesFirst() {
        for (int n = 0; n <= 3; n++) {
            FaslDesk desk = Due.desk(0, n, "INT9");
            StringBuilder want = new StringBuilder();
            for (int v = n; v <= 6; v++) {
                want.append("PUSH 0,STORE ").append(v).append(',');
            }
            DUE.is("compile(0)", desk.compile(0), 0);
            DUE.is("units with " + n + " PARAMETERS", Due.units(desk, 0, 0), want + "PUSH 9,GIVE");
            DUE.is("STACK", desk.entry(0, 3), 1);
        }
    }

    /** With three PARAMETERS the form begins at unit 8. */
    private static void becomes(String form, int stack, String want) {
        FaslDesk desk = Due.desk(7, 3, form);
        desk.compile(7);
        DUE.is("units of " + form, Due.units(desk, 0, 8), want + ",GIVE");
        DUE.is("STACK of " + form, desk.entry(0, 3), stack);
    }

    private static void units() {
        becomes("INT-5", 1, "PUSH -5");
        becomes("VAR1", 1, "LOAD 1");
        for (String op : Due.OPS.subList(2, 12)) {
            becomes(op + "77 INT1 VAR2", 2, "PUSH 1,LOAD 2," + op);
        }
        becomes("NEG77 INT1", 1, "PUSH 1,NEG");
        becomes("IF4 VAR0 INT1 INT2", 1, "LOAD 0,IF 4 12,PUSH 1,GO 13,PUSH 2");
        becomes("ADD INT1 IF0 VAR0 ADD INT1 INT2 INT3", 3,
                "PUSH 1,LOAD 0,IF 0 15,PUSH 1,PUSH 2,ADD,GO 16,PUSH 3,ADD");
        becomes("LET5 INT1 VAR5", 1, "PUSH 1,STORE 5,LOAD 5");
        becomes("SET2 INT1", 2, "PUSH 1,DUP,STORE 2");
        becomes("TIMES6 INT5 VAR6", 2, "PUSH 5,PUSH 7,AND,STORE 6,LOAD 6,IF 1 21,LOAD 6,POP,LOAD 6,PUSH 1,SUB,"
                + "STORE 6,GO 12,PUSH 0");
        becomes("ADD INT1 TIMES6 INT5 INT4", 3, "PUSH 1,PUSH 5,PUSH 7,AND,STORE 6,LOAD 6,IF 1 22,PUSH 4,POP,LOAD 6,"
                + "PUSH 1,SUB,STORE 6,GO 13,PUSH 0,ADD");
        becomes("CALL3 VAR0 VAR1 VAR2", 3, "LOAD 0,LOAD 1,LOAD 2,CALL 3");
        becomes("ADD INT1 ADD INT2 ADD INT3 INT4", 4, "PUSH 1,PUSH 2,PUSH 3,PUSH 4,ADD,ADD,ADD");
        becomes("ADD ADD ADD INT1 INT2 INT3 INT4", 2, "PUSH 1,PUSH 2,ADD,PUSH 3,ADD,PUSH 4,ADD");
        becomes("CALL0 INT1 INT2 SET0 INT3", 4, "PUSH 1,PUSH 2,PUSH 3,DUP,STORE 0,CALL 0");
    }

    private static void places() {
        FaslDesk desk = new FaslDesk();
        for (int f : new int[] {-1, 0, 8}) {
            DUE.refused("compile(" + f + ")", desk.compile(f));
        }
        Due.defined(desk, 5, 1, "VAR0");
        Due.defined(desk, 2, 0, "INT2");
        DUE.is("the first", desk.compile(5), 0);
        DUE.is("the second", desk.compile(2), 1);
        DUE.is("the first again", desk.compile(5), 0);
        Due.defined(desk, 5, 1, "ADD INT1 ADD INT2 IF0 VAR0 INT3 INT4");
        desk.compile(5);
        Due.defined(desk, 5, 1, "NEG NEG NEG NEG NEG VAR0");
        DUE.is("nothing is left of a larger one", desk.compile(5), 0);
        DUE.is("not its STACK", desk.entry(0, 3), 1);
        DUE.is("not its units", Due.units(desk, 0, 12), "LOAD 0,NEG,NEG,NEG,NEG,NEG,GIVE");
        DUE.is("not the b of its IF", desk.unit(0, 15, 2), 0);
        Due.defined(desk, 5, 1, "VAR0");
        desk.compile(5);
        DUE.is("two ENTRIES", desk.count(1), 2);
        Due.defined(desk, 5, 3, "ADD VAR0 VAR2");
        DUE.is("a form alone changes no ENTRY", desk.entry(0, 1), 1);
        desk.damage(1, 0, 9);
        desk.damage(3, 0, 0);
        desk.forge(0, 13, 21);
        DUE.is("the SEAL does not go", desk.entry(0, 5), 0);
        DUE.is("compiled anew", desk.compile(5), 0);
        DUE.is("PARAMETERS", desk.entry(0, 1), 3);
        DUE.is("units", Due.units(desk, 0, 8), "LOAD 0,LOAD 2,ADD,GIVE");
        DUE.is("the SEAL goes", desk.entry(0, 5), 1);
        DUE.is("COUNT is right", desk.count(2), 2);
        DUE.is("nothing is damaged", desk.load(), 0);
        desk.damage(2, 0, 2);
        DUE.is("no ENTRY has 5 now", desk.compile(5), 2);
        desk.damage(2, 2, 4);
        Due.defined(desk, 4, 0, "INT4");
        DUE.is("the one that has the number, named for another", desk.compile(4), 2);
        DUE.is("is named anew", desk.entry(2, 4), 4);
    }

    private static void full() {
        FaslDesk desk = Due.archive(8);
        DUE.is("8 ENTRIES", desk.count(1), 8);
        DUE.is("one that is there", desk.compile(7), 7);
        desk.damage(2, 3, 0);
        DUE.is("one that is not", desk.compile(3), FaslDesk.FULL);
        DUE.is("still 8", desk.count(1), 8);
        DUE.is("COUNT", desk.count(2), 8);
        DUE.refused("REFUSED comes before", desk.compile(8));
        desk.drop(0);
        DUE.is("room again", desk.compile(3), 7);
    }
}
