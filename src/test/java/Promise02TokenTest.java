/** Promise 2: tokens of the draft, and which are refused. */
public final class Promise02TokenTest {
    public static void main(String[] args) {
        Due due = new Due();
        for (int op = -2; op <= 19; op++) {
            for (int a : new int[] {Integer.MIN_VALUE, -1, 0, 1, 2, 3, 4, 5, 6, 7, 8, 31, 32, 35, Integer.MAX_VALUE}) {
                FaslDesk desk = new FaslDesk();
                due.is("token(" + op + ", " + a + ")", desk.token(op, a), allowed(op, a) ? 1 : -1);
                due.is("tokens then", desk.count(7), allowed(op, a) ? 1 : 0);
            }
        }
        FaslDesk desk = new FaslDesk();
        for (int n = 1; n <= 40; n++) {
            due.is("token " + n, desk.token(n == 40 ? 0 : 12, n), n);
        }
        due.is("token 41", desk.token(0, 0), FaslDesk.FULL);
        due.is("tokens then", desk.count(7), 40);
        due.is("40 are one form", desk.define(0, 0), 40);
        due.is("its last one counts", Due.interpreted(desk, 0, 0, 0, 0), "-40");
        due.is("there is room again", desk.token(0, 0), 1);
        due.end();
    }

    private static boolean allowed(int op, int a) {
        if (op == 1 || op == 15) {
            return a >= 0 && a <= 6;
        }
        if (op == 13) {
            return a >= 0 && a <= 5;
        }
        if (op == 14 || op == 16) {
            return a >= 3 && a <= 6;
        }
        if (op == 17) {
            return a >= 0 && a <= 7;
        }
        return op >= 0 && op <= 17;
    }
}
