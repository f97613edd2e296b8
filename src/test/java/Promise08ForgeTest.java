/** Promise 8: which units can be forged, and into what. */
public final class Promise08ForgeTest {
    private static final int LEAST = Integer.MIN_VALUE, MOST = Integer.MAX_VALUE;
    /** It has an AND and a SUB of its own (at 10, 24 and 39), and those of a TIMES (AND 14, POP 28, SUB 31). */
    private static final String FORM = "LET3 AND INT1 INT7 SUB TIMES4 VAR3 SET3 NEG SUB VAR3 IF0 INT0 INT1 INT2 CALL0 "
            + "INT1 INT1 INT1";
    private static final String UNITS = "PUSH 0,STORE 3,PUSH 0,STORE 4,PUSH 0,STORE 5,PUSH 0,STORE 6,PUSH 1,PUSH 7,AND,"
            + "STORE 3,LOAD 3,PUSH 7,AND,STORE 4,LOAD 4,IF 1 34,LOAD 3,PUSH 0,IF 0 23,PUSH 1,GO 24,PUSH 2,SUB,NEG,DUP,"
            + "STORE 3,POP,LOAD 4,PUSH 1,SUB,STORE 4,GO 16,PUSH 0,PUSH 1,PUSH 1,PUSH 1,CALL 0,SUB,GIVE";

    public static void main(String[] args) {
        Sentences promise = new Sentences("Promise 8: forge");
        promise.test("UNIT i of ENTRY e is op (2..12, 17..21) instead of what it is, if that is one of these, too: "
                + "that.", Promise08ForgeTest::insteadOfWhatItIs);
        promise.test("REFUSED if there is no such UNIT,", Promise08ForgeTest::noSuchUnit);
        promise.test("it is none of these,", Promise08ForgeTest::noneOfThese);
        promise.test("or one that a TIMES puts there itself (AND, POP, SUB),", Promise08ForgeTest::ofTimes);
        promise.test("or op is not.", Promise08ForgeTest::ops);
        promise.end();
    }

    private static boolean forgeable(int op) {
        return op >= 2 && op <= 12 || op >= 17 && op <= 21;
    }

    private static FaslDesk compiled() {
        FaslDesk desk = Due.desk(7, 3, FORM);
        desk.compile(7);
        return desk;
    }

    private static void insteadOfWhatItIs(Due due) {
        due.is("units", Due.units(compiled(), 0, 0), UNITS);
        for (int i : new int[] {10, 24, 25, 26, 39, 40}) {
            for (int op = 2; op <= 21; op++) {
                if (forgeable(op)) {
                    FaslDesk desk = compiled();
                    int before = desk.unit(0, i, 0);
                    due.is("forge(0, " + i + ", " + op + ")", desk.forge(0, i, op), before);
                    due.is("the unit then", desk.unit(0, i, 0), op);
                    due.is("it has no a and no b", desk.unit(0, i, 1) + " " + desk.unit(0, i, 2), "0 0");
                    due.is("the SEAL goes", desk.entry(0, 5), op == before ? 1 : 0);
                    due.is("forged back", desk.forge(0, i, before), op);
                    due.is("all units then", Due.units(desk, 0, 0), UNITS);
                }
            }
        }
        FaslDesk two = Due.archive(2);
        due.is("of the other ENTRY", two.forge(1, 15, 20), 17);
        due.is("UNITS 15 then", two.unit(0, 15, 0) + " " + two.unit(1, 15, 0), "17 20");
        due.is("neither STACK nor how many", two.entry(1, 3) + " " + two.entry(1, 2), "1 16");
    }

    private static void noSuchUnit(Due due) {
        FaslDesk desk = Due.archive(2);
        for (int e : new int[] {LEAST, -1, 2, 7, 8, MOST}) {
            due.refused("forge(" + e + ", 15, 21)", desk.forge(e, 15, 21));
        }
        for (int i : new int[] {LEAST, -1, 16, 17, 264, 265, 300, MOST}) {
            due.refused("forge(0, " + i + ", 21)", desk.forge(0, i, 21));
        }
        due.is("the last UNIT", desk.forge(1, 15, 21), 17);
        desk.drop(0);
        due.refused("of an ENTRY that has moved up", desk.forge(1, 15, 21));
        FaslDesk shorter = Due.desk(7, 3, "NEG NEG VAR0");
        shorter.compile(7);
        Due.defined(shorter, 7, 3, "VAR0");
        shorter.compile(7);
        due.refused("a UNIT of a longer one of before", shorter.forge(0, 10, 21));
    }

    private static void noneOfThese(Due due) {
        String[] units = UNITS.split(",");
        for (int i = 0; i < units.length; i++) {
            int before = Due.UNITS.indexOf(units[i].split(" ")[0]);
            for (int op : new int[] {2, 12, 17, 21}) {
                if (!forgeable(before)) {
                    FaslDesk desk = compiled();
                    due.refused("forge(0, " + i + ", " + op + ") of " + units[i], desk.forge(0, i, op));
                    due.is("all units then", Due.units(desk, 0, 0), UNITS);
                    due.is("the SEAL goes", desk.entry(0, 5), 1);
                }
            }
        }
    }

    private static void ofTimes(Due due) {
        for (int i : new int[] {14, 28, 31}) {
            for (int op = 2; op <= 21; op++) {
                FaslDesk desk = compiled();
                due.refused("forge(0, " + i + ", " + op + ")", desk.forge(0, i, op));
                due.is("all units then", Due.units(desk, 0, 0), UNITS);
            }
        }
        // They are known by their places: AND and SUB of the form itself go.
        due.is("the form's AND", compiled().forge(0, 10, 21), 7);
        due.is("the form's SUB within the TIMES", compiled().forge(0, 24, 21), 3);
        due.is("the form's SUB behind it", compiled().forge(0, 39, 21), 3);
        FaslDesk forged = compiled();
        forged.forge(0, 25, 18);
        due.is("a POP that was forged", forged.forge(0, 25, 12), 18);
        FaslDesk again = Due.desk(7, 3, "TIMES3 INT1 INT2");
        again.compile(7);
        due.refused("AND of a TIMES", again.forge(0, 10, 2));
        Due.defined(again, 7, 3, "AND INT1 INT2");
        again.compile(7);
        due.is("AND of another form in its place", again.forge(0, 10, 2), 7);
        FaslDesk moved = Due.archive(1);
        Due.defined(moved, 7, 3, "TIMES3 INT1 INT2");
        moved.compile(7);
        moved.drop(0);
        due.refused("of a TIMES in an ENTRY that has moved up", moved.forge(0, 10, 2));
        FaslDesk inner = Due.desk(7, 3, "TIMES3 TIMES4 INT1 AND INT1 INT2 TIMES5 INT1 SUB INT1 INT2");
        inner.compile(7);
        String[] units = Due.units(inner, 0, 0).split(",");
        int kept = 0;
        for (int i = 8; i < units.length; i++) {
            boolean known = units[i].equals("AND") || units[i].equals("SUB") || units[i].equals("POP");
            kept += known && inner.forge(0, i, 21) < 0 ? 1 : 0;
        }
        due.is("three for each of three TIMES", kept, 9);
    }

    private static void ops(Due due) {
        for (int op = -2; op <= 24; op++) {
            FaslDesk desk = compiled();
            due.is("forge(0, 25, " + op + ")", desk.forge(0, 25, op), forgeable(op) ? 12 : -1);
            due.is("the unit then", desk.unit(0, 25, 0), forgeable(op) ? op : 12);
        }
        for (int op : new int[] {LEAST, -1, 0, 1, 13, 14, 15, 16, 22, 34, MOST}) {
            due.refused("forge(0, 40, " + op + ")", compiled().forge(0, 40, op));
        }
    }
}
