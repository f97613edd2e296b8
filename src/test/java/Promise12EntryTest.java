/** Promise 12: what an ENTRY tells of itself. */
public final class Promise12EntryTest {
    private static final int LEAST = Integer.MIN_VALUE, MOST = Integer.MAX_VALUE;

    public static void main(String[] args) {
        Sentences promise = new Sentences("Promise 12: entry");
        promise.test("Of ENTRY e what 0: its number of a FUNCTION;", Promise12EntryTest::number);
        promise.test("1: PARAMETERS;", Promise12EntryTest::parameters);
        promise.test("2: how many UNITS;", Promise12EntryTest::units);
        promise.test("3: STACK;", Promise12EntryTest::stack);
        promise.test("4: the FUNCTION for which its class is named;", Promise12EntryTest::name);
        promise.test("5: 1 if its SEAL goes, else 0.", Promise12EntryTest::seal);
        promise.test("REFUSED for others,", Promise12EntryTest::others);
        promise.test("or if there is none.", Promise12EntryTest::none);
        promise.end();
    }

    /** ENTRY 0 is FUNCTION 5 with two PARAMETERS, 1 is FUNCTION 1 with none, 2 is FUNCTION 7 with three. */
    private static FaslDesk three() {
        FaslDesk desk = Due.desk(5, 2, "ADD VAR0 MUL VAR1 INT3");
        Due.defined(desk, 1, 0, "INT3");
        Due.defined(desk, 7, 3, "CALL0 VAR0 INT1 SET0 INT2");
        desk.compile(5);
        desk.compile(1);
        desk.compile(7);
        return desk;
    }

    private static void each(Due due, FaslDesk desk, int what, int... wants) {
        for (int e = 0; e < wants.length; e++) {
            due.is("entry(" + e + ", " + what + ")", desk.entry(e, what), wants[e]);
        }
    }

    private static void number(Due due) {
        FaslDesk desk = three();
        each(due, desk, 0, 5, 1, 7);
        desk.damage(2, 1, 0);
        each(due, desk, 0, 5, 0, 7);
        desk.drop(0);
        each(due, desk, 0, 0, 7);
    }

    private static void parameters(Due due) {
        FaslDesk desk = three();
        each(due, desk, 1, 2, 0, 3);
        Due.defined(desk, 5, 1, "VAR0");
        each(due, desk, 1, 2, 0, 3);
        desk.compile(5);
        each(due, desk, 1, 1, 0, 3);
    }

    private static void units(Due due) {
        FaslDesk desk = three();
        each(due, desk, 2, 16, 16, 15);
        desk.forge(0, 13, 21);
        each(due, desk, 2, 16, 16, 15);
    }

    private static void stack(Due due) {
        FaslDesk desk = three();
        each(due, desk, 3, 3, 1, 4);
        // It is that of the code as it was compiled.
        desk.forge(0, 13, 17);
        desk.damage(4, 0, 0);
        each(due, desk, 3, 3, 1, 4);
    }

    private static void name(Due due) {
        FaslDesk desk = three();
        each(due, desk, 4, 5, 1, 7);
        desk.damage(2, 1, 0);
        desk.damage(4, 1, 0);
        each(due, desk, 4, 5, 1, 7);
    }

    private static void seal(Due due) {
        FaslDesk desk = three();
        each(due, desk, 5, 1, 1, 1);
        desk.damage(2, 0, 6);
        desk.forge(2, 11, 21);
        each(due, desk, 5, 0, 1, 0);
        desk.damage(3, 1, 0);
        each(due, desk, 5, 0, 0, 0);
        desk.damage(2, 0, 5);
        desk.damage(4, 1, 0);
        each(due, desk, 5, 1, 1, 0);
    }

    private static void others(Due due) {
        FaslDesk desk = three();
        for (int e = 0; e < 3; e++) {
            for (int what : new int[] {LEAST, -1, 6, 7, 32, MOST}) {
                due.refused("entry(" + e + ", " + what + ")", desk.entry(e, what));
            }
        }
    }

    private static void none(Due due) {
        for (int what = 0; what <= 5; what++) {
            due.refused("of an empty ARCHIVE", new FaslDesk().entry(0, what));
            for (int e : new int[] {LEAST, -1, 3, 7, 8, MOST}) {
                due.refused("entry(" + e + ", " + what + ")", three().entry(e, what));
            }
            due.refused("entry(8, " + what + ") of 8", Due.archive(8).entry(8, what));
            FaslDesk desk = three();
            desk.drop(1);
            due.refused("behind one that was dropped", desk.entry(2, what));
        }
    }
}
