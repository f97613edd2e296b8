/** Promise 12: what an ENTRY tells of itself. */
public final class Promise12EntryTest {
    public static void main(String[] args) {
        Due due = new Due();
        FaslDesk desk = Due.desk(5, 2, "ADD VAR0 MUL VAR1 INT3");
        Due.defined(desk, 1, 0, "INT3");
        desk.compile(5);
        desk.compile(1);
        int[][] wants = {{5, 2, 16, 3, 5, 1}, {1, 0, 16, 1, 1, 1}};
        for (int e = 0; e < 2; e++) {
            for (int what = 0; what <= 5; what++) {
                due.is("entry(" + e + ", " + what + ")", desk.entry(e, what), wants[e][what]);
            }
            for (int what : new int[] {-1, 6, Integer.MIN_VALUE, Integer.MAX_VALUE}) {
                due.refused("entry(" + e + ", " + what + ")", desk.entry(e, what));
            }
        }
        for (int e : new int[] {-1, 2, 7, 8, Integer.MIN_VALUE, Integer.MAX_VALUE}) {
            due.refused("entry(" + e + ", 0)", desk.entry(e, 0));
        }
        desk.damage(2, 0, 6);
        due.is("its number now", desk.entry(0, 0), 6);
        due.is("its name still", desk.entry(0, 4), 5);
        due.is("its SEAL", desk.entry(0, 5), 0);
        due.is("that of the other", desk.entry(1, 5), 1);
        desk.forge(0, 13, 21);
        due.is("STACK is not reckoned anew", desk.entry(0, 3), 3);
        due.is("nor how many units", desk.entry(0, 2), 16);
        due.end();
    }
}
