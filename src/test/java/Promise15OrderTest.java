/** Promise 15: orders and limits. */
public final class Promise15OrderTest {
    private static final Due DUE = new Due();

    public static void main(String[] args) {
        refusedBeforeFull();
        timesHasItsX();
        firstOfSeveral();
        damageAnswersOne();
        DUE.end();
    }

    private static void refusedBeforeFull() {
        FaslDesk desk = new FaslDesk();
        for (int n = 0; n < 40; n++) {
            desk.token(0, 0);
        }
        DUE.refused("token(18, 0)", desk.token(18, 0));
        DUE.refused("token(1, 7)", desk.token(1, 7));
        DUE.refused("token(16, 0)", desk.token(16, 0));
        DUE.is("token(1, 6)", desk.token(1, 6), FaslDesk.FULL);
    }

    private static void timesHasItsX() {
        DUE.is("CALL in the X", Due.goes(7, 0, "TIMES3 CALL0 INT1 INT2 INT3 INT4"), false);
        DUE.is("CALL in the X of the inner one", Due.goes(7, 0, "TIMES3 INT1 TIMES4 CALL0 INT1 INT2 INT3 INT4"), false);
        DUE.is("three, by the X", Due.goes(7, 0, "TIMES3 TIMES4 TIMES5 INT1 INT2 INT3 INT4"), false);
        DUE.is("three, by X and Y", Due.goes(7, 0, "TIMES3 TIMES4 INT1 TIMES5 INT2 INT3 INT4"), false);
        DUE.is("three, by Y and X", Due.goes(7, 0, "TIMES3 INT1 TIMES4 TIMES5 INT2 INT3 INT4"), false);
        DUE.is("two, by the X", Due.goes(7, 0, "TIMES3 TIMES4 INT1 INT2 INT4"), true);
        DUE.is("two in each", Due.goes(7, 0, "TIMES3 TIMES4 INT1 INT2 TIMES4 INT1 INT2"), true);
        DUE.is("but its VARIABLE is not set there", Due.goes(7, 0, "TIMES3 VAR3 INT2"), false);
        DUE.is("and may be another's", Due.goes(7, 0, "TIMES3 LET3 INT1 SET3 INT2 VAR3"), true);
    }

    private static void firstOfSeveral() {
        FaslDesk desk = Due.archive(4);
        desk.damage(2, 1, 3);
        desk.damage(2, 2, 3);
        DUE.is("three have the number 3", desk.compile(3), 1);
        DUE.is("the first is it", desk.unit(1, 14, 1), 103);
        DUE.is("and named so", desk.entry(1, 4), 3);
        DUE.is("the second is as it was", desk.unit(2, 14, 1), 102);
        DUE.is("and has the number", desk.entry(2, 0), 3);
        DUE.is("still four", desk.count(1), 4);
    }

    private static void damageAnswersOne() {
        FaslDesk desk = Due.archive(1);
        for (int part = 0; part <= 4; part++) {
            DUE.is("damage(" + part + ", 0, 7)", desk.damage(part, 0, 7), 1);
            DUE.is("and again", desk.damage(part, 0, 7), 1);
        }
    }
}
