/** Promise 13: what a UNIT tells of itself. */
public final class Promise13UnitTest {
    private static final int LEAST = Integer.MIN_VALUE, MOST = Integer.MAX_VALUE;
    /** All that a token bears beside what is said of it (ADD55, NEG56) must not be seen. */
    private static final String FORM =
            "IF3 ADD55 VAR2 INT-1 NEG56 INT9 CALL4 INT1 SET2 INT2 TIMES5 INT3 LET6 INT4 VAR6";
    private static final int[][] WANTS = {{0, 0, 0}, {13, 3, 0}, {0, 0, 0}, {13, 4, 0}, {0, 0, 0}, {13, 5, 0},
        {0, 0, 0}, {13, 6, 0}, {1, 2, 0}, {0, -1, 0}, {2, 0, 0}, {14, 3, 15}, {0, 9, 0}, {12, 0, 0}, {15, 36, 0},
        {0, 1, 0}, {0, 2, 0}, {19, 0, 0}, {13, 2, 0}, {0, 3, 0}, {0, 7, 0}, {7, 0, 0}, {13, 5, 0}, {1, 5, 0}, {14, 1, 34},
        {0, 4, 0}, {13, 6, 0}, {1, 6, 0}, {18, 0, 0}, {1, 5, 0}, {0, 1, 0}, {3, 0, 0}, {13, 5, 0}, {15, 23, 0},
        {0, 0, 0}, {16, 4, 0}, {17, 0, 0}};

    public static void main(String[] args) {
        Sentences promise = new Sentences("Promise 13: unit");
        promise.test("Of UNIT i of ENTRY e what 0: its number (0..21),", Promise13UnitTest::number);
        promise.test("1: its a (or b of GO),", Promise13UnitTest::a);
        promise.test("2: b of IF;", Promise13UnitTest::b);
        promise.test("0 where it has none.", Promise13UnitTest::zeroWhereNone);
        promise.test("REFUSED for others (-1, it may be that, too),", Promise13UnitTest::others);
        promise.test("or if there is none.", Promise13UnitTest::none);
        promise.end();
    }

    private static FaslDesk compiled() {
        FaslDesk desk = Due.archive(1);
        Due.defined(desk, 7, 3, FORM);
        desk.compile(7);
        return desk;
    }

    private static void each(Due due, int what) {
        FaslDesk desk = compiled();
        due.is("how many", desk.entry(1, 2), WANTS.length);
        for (int i = 0; i < WANTS.length; i++) {
            due.is("unit(1, " + i + ", " + what + ")", desk.unit(1, i, what), WANTS[i][what]);
        }
        due.is("of the other ENTRY", desk.unit(0, 14, 0) + " " + desk.unit(0, 14, 1) + " " + desk.unit(0, 14, 2),
                "0 100 0");
    }

    private static void number(Due due) {
        each(due, 0);
        for (int op = 2; op <= 21; op++) {
            FaslDesk desk = Due.archive(1);
            boolean goes = desk.forge(0, 15, op) >= 0;
            due.is("a forged one", desk.unit(0, 15, 0), goes ? op : 17);
        }
    }

    private static void a(Due due) {
        each(due, 1);
        for (int a : new int[] {LEAST, MOST}) {
            FaslDesk desk = Due.desk(0, 0, "INT" + a);
            desk.compile(0);
            due.is("the a of PUSH", desk.unit(0, 14, 1), a);
        }
    }

    private static void b(Due due) {
        each(due, 2);
    }

    private static void zeroWhereNone(Due due) {
        FaslDesk desk = Due.forged("ADD99 NEG98 VAR0 INT5", 9, 19);
        for (int i : new int[] {9, 11, 12}) {
            due.is("a and b of UNIT " + i, desk.unit(0, i, 1) + " " + desk.unit(0, i, 2), "0 0");
        }
        Due.defined(desk, 7, 3, "IF5 VAR0 INT88 INT99");
        desk.compile(7);
        Due.defined(desk, 7, 3, "NEG NEG NEG NEG NEG VAR0");
        desk.compile(7);
        for (int i = 9; i <= 14; i++) {
            due.is("nothing is left of another form at " + i, desk.unit(0, i, 1) + " " + desk.unit(0, i, 2), "0 0");
        }
    }

    private static void others(Due due) {
        FaslDesk desk = compiled();
        for (int i = 0; i < WANTS.length; i++) {
            for (int what : new int[] {LEAST, -1, 3, 4, 32, MOST}) {
                due.refused("unit(1, " + i + ", " + what + ")", desk.unit(1, i, what));
            }
        }
        due.is("the a of PUSH -1 is no refusal, but the same number", desk.unit(1, 9, 1), -1);
        due.is("its UNIT is there", desk.unit(1, 9, 0), 0);
    }

    private static void none(Due due) {
        FaslDesk desk = compiled();
        for (int what = 0; what <= 2; what++) {
            for (int i : new int[] {LEAST, -1, WANTS.length, 264, 265, 300, MOST}) {
                due.refused("unit(1, " + i + ", " + what + ")", desk.unit(1, i, what));
            }
            for (int e : new int[] {LEAST, -1, 2, 7, 8, MOST}) {
                due.refused("unit(" + e + ", 0, " + what + ")", desk.unit(e, 0, what));
            }
            due.refused("the shorter one ends before", desk.unit(0, 16, what));
            due.refused("of an empty ARCHIVE", new FaslDesk().unit(0, 0, what));
        }
        Due.defined(desk, 7, 3, "INT4");
        desk.compile(7);
        due.is("the last of a shorter one", desk.unit(1, 9, 0), 17);
        due.refused("behind it", desk.unit(1, 10, 0));
        desk.drop(0);
        due.refused("of one that has moved up", desk.unit(1, 0, 0));
    }
}
