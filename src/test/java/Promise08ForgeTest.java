/** Promise 8: which units can be forged, and into what. */
public final class Promise08ForgeTest {
    public static void main(String[] args) {
        Due due = new Due();
        String form = "LET3 AND INT1 INT7 SUB TIMES4 VAR3 SET3 NEG SUB VAR3 IF0 INT0 INT1 INT2 CALL0 INT1 INT1 INT1";
        FaslDesk model = Due.desk(7, 3, form);
        model.compile(7);
        String[] units = Due.units(model, 0, 0).split(",");
        for (int i = 0; i < units.length; i++) {
            boolean ofTimes = i == 14 || i == 28 || i == 31;
            for (int op = -1; op <= 23; op++) {
                FaslDesk desk = Due.desk(7, 3, form);
                desk.compile(7);
                int before = desk.unit(0, i, 0);
                boolean goes = forgeable(before) && forgeable(op) && !ofTimes;
                due.is("forge(0, " + i + ", " + op + ") of " + units[i], desk.forge(0, i, op), goes ? before : -1);
                due.is("the unit then", desk.unit(0, i, 0), goes ? op : before);
                due.is("the SEAL goes", desk.entry(0, 5), goes && op != before ? 0 : 1);
            }
        }
        // What a TIMES puts there is known by its place: the form's own AND and SUB can be forged.
        due.is("units", String.join(",", units), "PUSH 0,STORE 3,PUSH 0,STORE 4,PUSH 0,STORE 5,PUSH 0,STORE 6,PUSH 1,"
                + "PUSH 7,AND,STORE 3,LOAD 3,PUSH 7,AND,STORE 4,LOAD 4,IF 1 34,LOAD 3,PUSH 0,IF 0 23,PUSH 1,GO 24,"
                + "PUSH 2,SUB,NEG,DUP,STORE 3,POP,LOAD 4,PUSH 1,SUB,STORE 4,GO 16,PUSH 0,PUSH 1,PUSH 1,PUSH 1,CALL 0,"
                + "SUB,GIVE");
        FaslDesk desk = Due.archive(1);
        due.refused("no ENTRY -1", desk.forge(-1, 15, 2));
        due.refused("no ENTRY 1", desk.forge(1, 15, 2));
        due.refused("no unit -1", desk.forge(0, -1, 2));
        due.refused("no unit 16", desk.forge(0, 16, 2));
        due.is("forged again and again", desk.forge(0, 15, 20), 17);
        due.is("it tells what was there", desk.forge(0, 15, 19), 20);
        due.is("a forged unit has no a", desk.unit(0, 15, 1), 0);
        FaslDesk again = Due.desk(7, 3, "TIMES3 INT1 INT2");
        again.compile(7);
        due.refused("AND of a TIMES", again.forge(0, 10, 2));
        Due.defined(again, 7, 3, "AND INT1 INT2");
        again.compile(7);
        due.is("AND of another form in its place", again.forge(0, 10, 2), 7);
        desk.drop(0);
        due.refused("what was dropped", desk.forge(0, 15, 2));
        due.end();
    }

    private static boolean forgeable(int op) {
        return op >= 2 && op <= 12 || op >= 17 && op <= 21;
    }
}
