/** Promise 13: what a unit tells of itself. */
public final class Promise13UnitTest {
    public static void main(String[] args) {
        Due due = new Due();
        FaslDesk desk = Due.desk(7, 3, "IF3 ADD55 VAR2 INT-1 NEG55 INT9 CALL4 INT1 INT2 INT3");
        desk.compile(7);
        int[][] wants = {{0, 0, 0}, {13, 3, 0}, {0, 0, 0}, {13, 4, 0}, {0, 0, 0}, {13, 5, 0}, {0, 0, 0}, {13, 6, 0},
            {1, 2, 0}, {0, -1, 0}, {2, 0, 0}, {14, 3, 15}, {0, 9, 0}, {12, 0, 0}, {15, 19, 0}, {0, 1, 0}, {0, 2, 0},
            {0, 3, 0}, {16, 4, 0}, {17, 0, 0}};
        due.is("units", desk.entry(0, 2), wants.length);
        for (int i = 0; i < wants.length; i++) {
            for (int what = 0; what <= 2; what++) {
                due.is("unit(0, " + i + ", " + what + ")", desk.unit(0, i, what), wants[i][what]);
            }
            due.refused("unit(0, " + i + ", 3)", desk.unit(0, i, 3));
            due.refused("unit(0, " + i + ", -1)", desk.unit(0, i, -1));
        }
        for (int i : new int[] {-1, wants.length, Integer.MIN_VALUE, Integer.MAX_VALUE}) {
            due.refused("unit(0, " + i + ", 0)", desk.unit(0, i, 0));
        }
        for (int e : new int[] {-1, 1, 8, Integer.MIN_VALUE, Integer.MAX_VALUE}) {
            due.refused("unit(" + e + ", 0, 0)", desk.unit(e, 0, 0));
        }
        Due.defined(desk, 7, 3, "INT4");
        desk.compile(7);
        due.is("a shorter one", desk.unit(0, 9, 0), 17);
        due.refused("has no more", desk.unit(0, 10, 0));
        due.is("nor an a of the one before", desk.unit(0, 9, 1), 0);
        due.end();
    }
}
