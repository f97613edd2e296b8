/** Promise 7: every part that can be damaged, its range, and when a SEAL goes. */
public final class Promise07DamageTest {
    private static final int LEAST = Integer.MIN_VALUE, MOST = Integer.MAX_VALUE;
    private static final int[] EDGES = {LEAST, -1, 0, 1, 6, 7, 8, 9, 10, MOST};

    public static void main(String[] args) {
        Sentences promise = new Sentences("Promise 7: damage");
        promise.test("The ARCHIVE is damaged: part 0: its MAGIC is v;", Promise07DamageTest::magic);
        promise.test("1: its COUNT is v;", Promise07DamageTest::stated);
        promise.test("2: ENTRY e has the number v;", Promise07DamageTest::number);
        promise.test("3: the octet of ENTRY e's class is changed, or, if it is that, as it was again",
                Promise07DamageTest::octet);
        promise.test("(v is not looked at);", Promise07DamageTest::notLookedAt);
        promise.test("4: the SEAL of ENTRY e is made anew, and goes: 1.", Promise07DamageTest::sealAnew);
        promise.test("(A SEAL goes as long as the number, the octet and the UNITS are those of the time when it was "
                + "made.)", Promise07DamageTest::whenASealGoes);
        promise.test("REFUSED if part is not 0..4,", Promise07DamageTest::parts);
        promise.test("v not 0..7 (0, 2)", Promise07DamageTest::valuesOfMagicAndNumber);
        promise.test("or 0..9 (1),", Promise07DamageTest::valuesOfCount);
        promise.test("or there is no ENTRY e (2 to 4).", Promise07DamageTest::noEntry);
        promise.end();
    }

    private static void magic(Due due) {
        FaslDesk desk = Due.archive(2);
        for (int v = 1; v <= 7; v++) {
            due.is("damage(0, 0, " + v + ")", desk.damage(0, 0, v), 1);
            due.is("load()", desk.load(), 1);
        }
        due.is("COUNT, numbers and SEALS are as they were", desk.count(2) + " " + desk.entry(0, 0) + " "
                + desk.entry(0, 5) + " " + desk.entry(1, 5), "2 0 1 1");
        due.is("damage(0, 0, 0)", desk.damage(0, 0, 0), 1);
        due.is("load() then", desk.load(), 0);
        for (int e : new int[] {LEAST, -1, 2, 8, MOST}) {
            due.is("it needs no ENTRY", Due.archive(2).damage(0, e, 7), 1);
        }
        due.is("of an empty ARCHIVE", new FaslDesk().damage(0, 0, 7), 1);
    }

    private static void stated(Due due) {
        FaslDesk desk = Due.archive(2);
        for (int v = 0; v <= 9; v++) {
            due.is("damage(1, 0, " + v + ")", desk.damage(1, 0, v), 1);
            due.is("COUNT", desk.count(2), v);
            due.is("ENTRIES", desk.count(1), 2);
            due.is("SEALS", desk.entry(0, 5) + " " + desk.entry(1, 5), "1 1");
            due.is("load()", desk.load(), v == 2 ? 0 : v > 2 ? 2 : 3);
        }
        for (int e : new int[] {LEAST, -1, 2, 8, MOST}) {
            due.is("it needs no ENTRY", Due.archive(2).damage(1, e, 9), 1);
        }
        due.is("of an empty ARCHIVE", new FaslDesk().damage(1, 0, 9), 1);
    }

    private static void number(Due due) {
        for (int e = 0; e < 3; e++) {
            for (int v = 0; v <= 7; v++) {
                FaslDesk desk = Due.archive(3);
                due.is("damage(2, " + e + ", " + v + ")", desk.damage(2, e, v), 1);
                for (int other = 0; other < 3; other++) {
                    due.is("number of " + other, desk.entry(other, 0), other == e ? v : other);
                    due.is("name of " + other, desk.entry(other, 4), other);
                    due.is("SEAL of " + other, desk.entry(other, 5), other == e && v != e ? 0 : 1);
                }
            }
        }
    }

    private static void octet(Due due) {
        FaslDesk desk = Due.archive(3);
        for (int times = 1; times <= 5; times++) {
            due.is("damage(3, 1, 0)", desk.damage(3, 1, 0), 1);
            due.is("the SEAL of before goes", desk.entry(1, 5), times % 2 == 0 ? 1 : 0);
            due.is("those of others go", desk.entry(0, 5) + " " + desk.entry(2, 5), "1 1");
        }
        desk.damage(4, 1, 0);
        due.is("it is changed", desk.load(), 6);
        desk.damage(3, 1, 0);
        desk.damage(4, 1, 0);
        due.is("it is as it was", desk.load(), 0);
    }

    private static void notLookedAt(Due due) {
        FaslDesk desk = Due.archive(1);
        int changes = 0;
        for (int v : EDGES) {
            due.is("damage(3, 0, " + v + ")", desk.damage(3, 0, v), 1);
            changes++;
            due.is("the SEAL goes", desk.entry(0, 5), changes % 2 == 0 ? 1 : 0);
            due.is("damage(4, 0, " + v + ")", Due.archive(1).damage(4, 0, v), 1);
        }
    }

    private static void sealAnew(Due due) {
        FaslDesk desk = Due.archive(2);
        due.is("of a whole one", desk.damage(4, 1, 0) + " " + desk.entry(1, 5), "1 1");
        desk.damage(2, 1, 5);
        desk.damage(3, 1, 0);
        desk.forge(1, 15, 21);
        desk.damage(3, 0, 0);
        due.is("it does not go", desk.entry(1, 5), 0);
        due.is("of a damaged one", desk.damage(4, 1, 0) + " " + desk.entry(1, 5), "1 1");
        due.is("that of another is not", desk.entry(0, 5), 0);
        due.is("nothing else is mended", desk.entry(1, 0) + " " + desk.entry(1, 4) + " " + Due.units(desk, 1, 14),
                "5 1 PUSH 101,NOTHING");
    }

    private static void seal(Due due, FaslDesk desk, int want) {
        due.is("the SEAL goes", desk.entry(1, 5), want);
    }

    private static void whenASealGoes(Due due) {
        FaslDesk desk = Due.archive(2);
        seal(due, desk, 1);
        desk.damage(2, 1, 5);
        seal(due, desk, 0);
        desk.damage(2, 1, 1);
        seal(due, desk, 1);
        desk.damage(3, 1, 0);
        seal(due, desk, 0);
        desk.damage(2, 1, 5);
        desk.damage(3, 1, 0);
        seal(due, desk, 0);
        desk.damage(2, 1, 1);
        seal(due, desk, 1);
        desk.forge(1, 15, 21);
        seal(due, desk, 0);
        desk.forge(1, 15, 17);
        seal(due, desk, 1);
        // Made with a changed octet it does not go with the octet as it was.
        desk.damage(3, 1, 0);
        desk.damage(4, 1, 0);
        desk.damage(3, 1, 0);
        seal(due, desk, 0);
        desk.damage(3, 1, 0);
        desk.forge(1, 15, 18);
        desk.damage(2, 1, 6);
        desk.damage(4, 1, 0);
        seal(due, desk, 1);
        desk.forge(1, 15, 17);
        seal(due, desk, 0);
        desk.forge(1, 15, 18);
        desk.damage(0, 0, 3);
        desk.damage(1, 0, 3);
        desk.load();
        seal(due, desk, 1);
        FaslDesk longer = Due.forged("ADD NEG VAR0 NEG VAR1");
        for (int i : new int[] {9, 11, 12, 13}) {
            int before = longer.forge(0, i, 21);
            due.is("with UNIT " + i + " forged", longer.entry(0, 5), 0);
            longer.forge(0, i, before);
            due.is("and as it was again", longer.entry(0, 5), 1);
        }
    }

    private static void parts(Due due) {
        for (int part = 0; part <= 4; part++) {
            due.is("damage(" + part + ", 0, 0)", Due.archive(1).damage(part, 0, 0), 1);
        }
        for (int part : new int[] {LEAST, -1, 5, 6, MOST}) {
            due.refused("damage(" + part + ", 0, 0)", Due.archive(1).damage(part, 0, 0));
        }
    }

    private static void values(Due due, int part, int most) {
        for (int v : EDGES) {
            FaslDesk desk = Due.archive(1);
            boolean goes = v >= 0 && v <= most;
            due.is("damage(" + part + ", 0, " + v + ")", desk.damage(part, 0, v), goes ? 1 : -1);
            due.is("COUNT", desk.count(2), part == 1 && goes ? v : 1);
            due.is("number", desk.entry(0, 0), part == 2 && goes ? v : 0);
            due.is("MAGIC", desk.load() == 1, part == 0 && goes && v != 0);
        }
    }

    private static void valuesOfMagicAndNumber(Due due) {
        values(due, 0, 7);
        values(due, 2, 7);
    }

    private static void valuesOfCount(Due due) {
        values(due, 1, 9);
    }

    private static void noEntry(Due due) {
        for (int part = 2; part <= 4; part++) {
            due.refused("none at all", new FaslDesk().damage(part, 0, 0));
            for (int n = 1; n <= 8; n += 7) {
                due.is("the first", Due.archive(n).damage(part, 0, 0), 1);
                due.is("the last", Due.archive(n).damage(part, n - 1, 0), 1);
                for (int e : new int[] {LEAST, -1, n, 8, MOST}) {
                    due.refused("damage(" + part + ", " + e + ", 0) of " + n, Due.archive(n).damage(part, e, 0));
                }
            }
            FaslDesk dropped = Due.archive(2);
            dropped.drop(0);
            due.refused("one that was dropped", dropped.damage(part, 1, 0));
        }
    }
}
