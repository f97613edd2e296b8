/** Promise 9: an ENTRY goes, and those behind it move up as they are. */
public final class Promise09DropTest {
    public static void main(String[] args) {
        Sentences promise = new Sentences("Promise 9: drop");
        promise.test("ENTRY e is gone, those behind it move up,", Promise09DropTest::moveUp);
        promise.test("and COUNT is the number of ENTRIES:", Promise09DropTest::countIsRight);
        promise.test("its FUNCTION's number.", Promise09DropTest::itsNumber);
        promise.test("REFUSED if there is none.", Promise09DropTest::none);
        promise.end();
    }

    private static void moveUp(Due due) {
        for (int e = 0; e < 8; e++) {
            FaslDesk desk = Due.archive(8);
            desk.drop(e);
            due.is("ENTRIES", desk.count(1), 7);
            for (int k = 0; k < 7; k++) {
                int f = k < e ? k : k + 1;
                due.is("ENTRY " + k, desk.entry(k, 0) + " " + desk.entry(k, 4) + " " + desk.entry(k, 5) + " "
                        + desk.unit(k, 14, 1), f + " " + f + " 1 " + (100 + f));
            }
            due.refused("none behind", desk.entry(7, 0));
        }
        FaslDesk desk = Due.archive(3);
        desk.damage(2, 2, 6);
        desk.forge(2, 15, 20);
        desk.damage(3, 1, 0);
        desk.damage(4, 1, 0);
        desk.drop(0);
        due.is("as damaged as it was", desk.entry(1, 0) + " " + desk.entry(1, 4) + " " + desk.entry(1, 5) + " "
                + desk.unit(1, 15, 0), "6 2 0 20");
        due.is("the SEAL that goes still goes", desk.entry(0, 5), 1);
        desk.drop(1);
        due.is("the octet is still changed", desk.load(), 6);
        desk.drop(0);
        due.is("forms stay", desk.count(0), 3);
        due.is("a new one is whole", desk.compile(2) + " " + Due.units(desk, 0, 14) + " " + desk.entry(0, 5),
                "0 PUSH 102,GIVE 1");
        due.is("and loads", desk.load(), 0);
    }

    private static void countIsRight(Due due) {
        FaslDesk desk = Due.archive(8);
        desk.damage(0, 0, 3);
        for (int left = 7; left >= 0; left--) {
            desk.damage(1, 0, 9);
            desk.drop(left / 2);
            due.is("COUNT", desk.count(2), left);
        }
        due.is("MAGIC is not mended", desk.load(), 1);
    }

    private static void itsNumber(Due due) {
        FaslDesk desk = Due.archive(4);
        due.is("drop(3)", desk.drop(3), 3);
        due.is("drop(0)", desk.drop(0), 0);
        desk.damage(2, 0, 7);
        due.is("the number that it has now, not its name", desk.drop(0), 7);
        due.is("the one that has moved up", desk.drop(0), 2);
    }

    private static void none(Due due) {
        due.refused("an empty ARCHIVE", new FaslDesk().drop(0));
        for (int n = 1; n <= 8; n += 7) {
            for (int e : new int[] {Integer.MIN_VALUE, -1, n, 8, Integer.MAX_VALUE}) {
                FaslDesk desk = Due.archive(n);
                desk.damage(1, 0, 9);
                due.refused("drop(" + e + ") of " + n, desk.drop(e));
                due.is("ENTRIES and COUNT", desk.count(1) + " " + desk.count(2), n + " 9");
            }
        }
        FaslDesk desk = Due.archive(1);
        desk.drop(0);
        due.refused("what is gone", desk.drop(0));
        due.is("COUNT", desk.count(2), 0);
    }
}
