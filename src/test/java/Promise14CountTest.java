/** Promise 14: everything that is counted. */
public final class Promise14CountTest {
    public static void main(String[] args) {
        Sentences promise = new Sentences("Promise 14: count");
        promise.test("What 0: FUNCTIONS that have a form;", Promise14CountTest::forms);
        promise.test("1: ENTRIES;", Promise14CountTest::entries);
        promise.test("2: COUNT;", Promise14CountTest::stated);
        promise.test("3: FUNCTIONS in the IMAGE;", Promise14CountTest::loaded);
        promise.test("4: how often an IMAGE was made;", Promise14CountTest::images);
        promise.test("5: how often LOADING found a FAULT;", Promise14CountTest::faults);
        promise.test("6: its ENTRY when it was the latest one that did", Promise14CountTest::latest);
        promise.test("(-1 for 1 to 3, or none yet);", Promise14CountTest::noEntry);
        promise.test("7: tokens in the draft.", Promise14CountTest::tokens);
        promise.test("REFUSED for others.", Promise14CountTest::others);
        promise.end();
    }

    private static void forms(Due due) {
        FaslDesk desk = new FaslDesk();
        due.is("none", desk.count(0), 0);
        for (int f = 7; f >= 0; f--) {
            Due.defined(desk, f, 0, "INT1");
            due.is("one more", desk.count(0), 8 - f);
            Due.defined(desk, f, 1, "VAR0");
            due.is("another for the same", desk.count(0), 8 - f);
        }
        desk.token(1, 6);
        desk.define(0, 0);
        due.is("a refused one", desk.count(0), 8);
    }

    private static void entries(Due due) {
        FaslDesk desk = Due.archive(8);
        due.is("eight", desk.count(1), 8);
        desk.compile(3);
        desk.damage(1, 0, 9);
        due.is("neither by one that is there nor by COUNT", desk.count(1), 8);
        for (int left = 7; left >= 0; left--) {
            desk.drop(0);
            due.is("one fewer", desk.count(1), left);
        }
    }

    private static void stated(Due due) {
        FaslDesk desk = Due.archive(3);
        due.is("three", desk.count(2), 3);
        for (int v = 0; v <= 9; v++) {
            desk.damage(1, 0, v);
            due.is("damaged", desk.count(2), v);
        }
        desk.load();
        due.is("LOADING does not mend it", desk.count(2), 9);
        desk.drop(0);
        due.is("drop does", desk.count(2), 2);
    }

    private static void loaded(Due due) {
        FaslDesk desk = Due.archive(8);
        due.is("not loaded", desk.count(3), 0);
        desk.load();
        due.is("eight", desk.count(3), 8);
        for (int left = 7; left >= 0; left--) {
            desk.drop(left);
            due.is("as loaded", desk.count(3), left + 1);
            desk.load();
            due.is("one fewer", desk.count(3), left);
        }
    }

    private static void images(Due due) {
        FaslDesk desk = Due.archive(2);
        due.is("none", desk.count(4), 0);
        for (int n = 1; n <= 5; n++) {
            desk.load();
            due.is("one more", desk.count(4), n);
            desk.damage(0, 0, 1);
            desk.load();
            due.is("not with a FAULT", desk.count(4), n);
            desk.damage(0, 0, 0);
        }
    }

    private static void faults(Due due) {
        FaslDesk desk = Due.archive(2);
        due.is("none", desk.count(5), 0);
        for (int n = 1; n <= 5; n++) {
            desk.damage(0, 0, 1);
            desk.load();
            due.is("one more", desk.count(5), n);
            desk.damage(0, 0, 0);
            desk.load();
            due.is("not without a FAULT", desk.count(5), n);
        }
        desk.damage(3, 0, 0);
        desk.damage(3, 1, 0);
        desk.load();
        due.is("a LOADING finds one, however many there are", desk.count(5), 6);
        int[][] damages = {{0, 1}, {1, 3}, {1, 1}, {3, 0}, {2, 0}, {3, 0}, {2, 5}};
        for (int fault = 1; fault <= 8; fault++) {
            FaslDesk one = Due.archive(2);
            if (fault == 8) {
                one.forge(1, 15, 21);
            } else {
                one.damage(damages[fault - 1][0], 1, damages[fault - 1][1]);
            }
            if (fault > 4) {
                one.damage(4, 1, 0);
            }
            due.is("load() and how often then", one.load() + " " + one.count(5), fault + " 1");
        }
    }

    private static void latest(Due due) {
        FaslDesk desk = Due.archive(8);
        for (int e = 0; e < 8; e++) {
            desk.damage(3, e, 0);
            desk.load();
            due.is("SEAL", desk.count(6), e);
            desk.damage(3, e, 0);
            desk.load();
            due.is("it stays when a LOADING goes", desk.count(6), e);
        }
        desk.damage(2, 5, 2);
        desk.damage(4, 5, 0);
        due.is("TWICE", desk.load() + " " + desk.count(6), "5 5");
        desk.drop(5);
        desk.damage(3, 3, 0);
        desk.damage(4, 3, 0);
        due.is("FORM", desk.load() + " " + desk.count(6), "6 3");
        desk.drop(3);
        desk.damage(2, 1, 5);
        desk.damage(4, 1, 0);
        due.is("NAME", desk.load() + " " + desk.count(6), "7 1");
        desk.drop(1);
        desk.forge(4, 15, 21);
        desk.damage(4, 4, 0);
        due.is("CODE", desk.load() + " " + desk.count(6), "8 4");
        desk.drop(4);
        due.is("it stays when that ENTRY is gone", desk.load() + " " + desk.count(6), "0 4");
    }

    private static void noEntry(Due due) {
        FaslDesk desk = Due.archive(2);
        due.is("none yet", desk.count(6), -1);
        desk.load();
        due.is("none yet, as it went", desk.count(6), -1);
        int[][] damages = {{0, 7}, {1, 9}, {1, 0}};
        for (int fault = 1; fault <= 3; fault++) {
            desk.damage(3, 1, 0);
            desk.load();
            due.is("SEAL of 1", desk.count(6), 1);
            desk.damage(3, 1, 0);
            desk.damage(damages[fault - 1][0], 0, damages[fault - 1][1]);
            due.is("load()", desk.load(), fault);
            due.is("it has no ENTRY", desk.count(6), -1);
            desk.damage(0, 0, 0);
            desk.damage(1, 0, 2);
            desk.load();
            due.is("still that", desk.count(6), -1);
        }
    }

    private static void tokens(Due due) {
        FaslDesk desk = new FaslDesk();
        for (int n = 0; n <= 40; n++) {
            due.is("tokens", desk.count(7), n);
            desk.token(0, 0);
        }
        due.is("no more than 40", desk.count(7), 40);
        desk.clear();
        due.is("none", desk.count(7), 0);
        desk.token(0, 0);
        desk.token(18, 0);
        due.is("a refused one", desk.count(7), 1);
        desk.define(0, 0);
        due.is("none after define", desk.count(7), 0);
    }

    private static void others(Due due) {
        for (int what : new int[] {Integer.MIN_VALUE, -1, 8, 9, 32, Integer.MAX_VALUE}) {
            due.refused("count(" + what + ")", new FaslDesk().count(what));
            due.refused("count(" + what + ") of a full one", Due.archive(8).count(what));
        }
    }
}
