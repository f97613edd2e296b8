/** Promise 15: orders and limits. */
public final class Promise15OrderTest {
    public static void main(String[] args) {
        Sentences promise = new Sentences("Promise 15: Order and limits");
        promise.test("token: REFUSED is seen before FULL.", Promise15OrderTest::refusedBeforeFull);
        promise.test("The X of a TIMES stands within that TIMES, too, as far as CALLS",
                Promise15OrderTest::noCallInItsX);
        promise.test("and how many TIMES are within one another go.", Promise15OrderTest::timesInItsX);
        promise.test("compile: if several ENTRIES have the number, it is the first of them.",
                Promise15OrderTest::firstOfSeveral);
        promise.test("damage: it answers 1 for every part, if it is not REFUSED.",
                Promise15OrderTest::damageAnswersOne);
        promise.end();
    }

    private static void refusedBeforeFull(Due due) {
        int[][] tokens = {{-1, 0}, {18, 0}, {1, -1}, {1, 7}, {15, 7}, {13, 6}, {14, 2}, {14, 7}, {16, 2},
            {16, 7}, {17, 8}};
        FaslDesk desk = new FaslDesk();
        Due.write(desk, "NEG ".repeat(40));
        for (int[] t : tokens) {
            due.refused("token(" + t[0] + ", " + t[1] + ")", desk.token(t[0], t[1]));
        }
        due.is("token(1, 6)", desk.token(1, 6), FaslDesk.FULL);
        due.is("token(17, 7)", desk.token(17, 7), FaslDesk.FULL);
    }

    private static void noCallInItsX(Due due) {
        due.goes(7, 0, "TIMES3 CALL0 INT1 INT2 INT3 INT4", false);
        due.goes(7, 0, "TIMES3 NEG CALL0 INT1 INT2 INT3 INT4", false);
        due.goes(7, 0, "TIMES3 LET4 INT1 CALL0 INT1 INT2 INT3 INT4", false);
        due.goes(7, 0, "TIMES3 INT1 TIMES4 CALL0 INT1 INT2 INT3 INT4", false);
        due.goes(7, 0, "TIMES3 TIMES4 CALL0 INT1 INT2 INT3 INT4 INT5", false);
        due.goes(7, 0, "LET3 CALL0 INT1 INT2 INT3 TIMES4 VAR3 INT4", true);
        // As far as VARIABLES go it does not.
        due.goes(7, 0, "TIMES3 VAR3 INT2", false);
        due.goes(7, 0, "TIMES3 LET3 INT1 SET3 INT2 VAR3", true);
        due.goes(7, 0, "LET3 INT1 TIMES3 SET3 INT2 VAR3", true);
        due.goes(7, 0, "TIMES3 TIMES3 INT1 INT2 INT3", true);
        due.gives("ADD TIMES3 TIMES3 INT4 SET0 ADD VAR0 VAR3 DIV INT1 INT0 VAR0", 0, 0, 0, "10");
    }

    private static void timesInItsX(Due due) {
        due.goes(7, 0, "TIMES3 TIMES4 TIMES5 INT1 INT2 INT3 INT4", false);
        due.goes(7, 0, "TIMES3 TIMES4 INT1 TIMES5 INT2 INT3 INT4", false);
        due.goes(7, 0, "TIMES3 INT1 TIMES4 TIMES5 INT2 INT3 INT4", false);
        due.goes(7, 0, "TIMES3 NEG TIMES4 NEG TIMES5 INT1 INT2 INT3 INT4", false);
        due.goes(7, 0, "TIMES3 TIMES4 INT1 INT2 INT4", true);
        due.goes(7, 0, "TIMES3 TIMES4 INT1 INT2 TIMES5 INT1 INT2", true);
    }

    private static void firstOfSeveral(Due due) {
        FaslDesk desk = Due.archive(4);
        desk.damage(2, 1, 3);
        desk.damage(2, 2, 3);
        due.is("three have the number 3", desk.compile(3), 1);
        due.is("the first is it", desk.entry(1, 4) + " " + desk.entry(1, 5) + " " + desk.unit(1, 14, 1), "3 1 103");
        due.is("the second is as it was", desk.entry(2, 0) + " " + desk.entry(2, 4) + " " + desk.entry(2, 5) + " "
                + desk.unit(2, 14, 1), "3 2 0 102");
        due.is("and the third", desk.entry(3, 0) + " " + desk.entry(3, 5), "3 1");
        due.is("still four", desk.count(1), 4);
        FaslDesk full = Due.archive(8);
        for (int e = 0; e < 8; e++) {
            full.damage(2, e, 6);
        }
        due.is("all eight have it", full.compile(6), 0);
        due.is("none has another", full.compile(5), FaslDesk.FULL);
    }

    private static void damageAnswersOne(Due due) {
        FaslDesk desk = Due.archive(1);
        for (int part = 0; part <= 4; part++) {
            for (int v : new int[] {0, 1, 5, 7, 7, 0}) {
                due.is("damage(" + part + ", 0, " + v + ")", desk.damage(part, 0, v), 1);
            }
        }
        due.is("damage(1, 0, 9)", desk.damage(1, 0, 9), 1);
        due.refused("damage(1, 0, 10)", desk.damage(1, 0, 10));
    }
}
