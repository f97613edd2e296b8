/** Promise 2: tokens of the draft, and which are refused. */
public final class Promise02TokenTest {
    private static final int LEAST = Integer.MIN_VALUE, MOST = Integer.MAX_VALUE;
    private static final int[] EDGES = {LEAST, -1, 0, 1, 2, 3, 4, 5, 6, 7, 8, 31, 32, 35, MOST};

    public static void main(String[] args) {
        Sentences promise = new Sentences("Promise 2: token");
        promise.test("A further token of the draft: how many it has.", Promise02TokenTest::howMany);
        promise.test("REFUSED if op is not 0..17,", Promise02TokenTest::ops);
        promise.test("or a not 0..6 (1, 15),", due -> range(due, 0, 6, 1, 15));
        promise.test("0..5 (13),", due -> range(due, 0, 5, 13));
        promise.test("3..6 (14, 16),", due -> range(due, 3, 6, 14, 16));
        promise.test("0..7 (17);", due -> range(due, 0, 7, 17));
        promise.test("FULL if it has 40.", Promise02TokenTest::full);
        promise.end();
    }

    private static void howMany(Due due) {
        FaslDesk desk = new FaslDesk();
        for (int n = 1; n <= 40; n++) {
            due.is("token " + n, desk.token(n == 40 ? 0 : 12, n), n);
            due.is("tokens then", desk.count(7), n);
        }
        due.is("they are one form", desk.define(0, 0), 40);
        due.is("of which the last is INT 40", Due.interpreted(desk, 0, 0, 0, 0), "-40");
        due.is("the first of the next draft", desk.token(0, 0), 1);
        due.refused("one that is refused", desk.token(99, 0));
        due.is("is not counted", desk.token(0, 0), 2);
    }

    private static void ops(Due due) {
        for (int op = 0; op <= 17; op++) {
            due.is("token(" + op + ", 3)", new FaslDesk().token(op, 3), 1);
        }
        for (int op : new int[] {LEAST, -1, 18, 19, 32, MOST}) {
            FaslDesk desk = new FaslDesk();
            due.refused("token(" + op + ", 3)", desk.token(op, 3));
            due.is("tokens then", desk.count(7), 0);
        }
        // What has no a may be given any.
        for (int op : new int[] {0, 2, 3, 4, 5, 6, 7, 8, 9, 10, 11, 12}) {
            for (int a : EDGES) {
                due.is("token(" + op + ", " + a + ")", new FaslDesk().token(op, a), 1);
            }
        }
    }

    private static void range(Due due, int least, int most, int... ops) {
        for (int op : ops) {
            for (int a : EDGES) {
                FaslDesk desk = new FaslDesk();
                boolean goes = a >= least && a <= most;
                due.is("token(" + op + ", " + a + ")", desk.token(op, a), goes ? 1 : -1);
                due.is("tokens then", desk.count(7), goes ? 1 : 0);
            }
        }
    }

    private static void full(Due due) {
        FaslDesk desk = new FaslDesk();
        Due.write(desk, "NEG ".repeat(38) + "INT5");
        due.is("there are 39", desk.token(0, 9), 40);
        for (int op = 0; op <= 17; op++) {
            due.is("there are 40: token(" + op + ", 3)", desk.token(op, 3), FaslDesk.FULL);
            due.is("tokens then", desk.count(7), 40);
        }
        desk.clear();
        due.is("there is none", desk.token(0, 9), 1);
    }
}
