/** Promise 7: every part that can be damaged, its range, and when a SEAL goes. */
public final class Promise07DamageTest {
    private static final Due DUE = new Due();

    public static void main(String[] args) {
        ranges();
        seals();
        DUE.end();
    }

    private static void ranges() {
        int[] values = {Integer.MIN_VALUE, -1, 0, 7, 8, 9, 10, Integer.MAX_VALUE};
        for (int part = -1; part <= 5; part++) {
            for (int e = -1; e <= 3; e++) {
                for (int v : values) {
                    FaslDesk desk = Due.archive(2);
                    boolean fits = part == 0 || part == 2 ? v >= 0 && v <= 7 : part != 1 || v >= 0 && v <= 9;
                    boolean there = part < 2 || e >= 0 && e < 2;
                    boolean goes = part >= 0 && part <= 4 && fits && there;
                    DUE.is("damage(" + part + ", " + e + ", " + v + ")", desk.damage(part, e, v), goes ? 1 : -1);
                    DUE.is("COUNT", desk.count(2), part == 1 && goes ? v : 2);
                    DUE.is("number of 0", desk.entry(0, 0), part == 2 && goes && e == 0 ? v : 0);
                    DUE.is("number of 1", desk.entry(1, 0), part == 2 && goes && e == 1 ? v : 1);
                    DUE.is("names", desk.entry(0, 4) + " " + desk.entry(1, 4), "0 1");
                    DUE.is("MAGIC", desk.load() == 1, part == 0 && goes && v != 0);
                }
            }
        }
        DUE.is("MAGIC of an empty ARCHIVE", new FaslDesk().damage(0, 0, 5), 1);
        DUE.is("COUNT of an empty ARCHIVE", new FaslDesk().damage(1, -9, 9), 1);
        DUE.refused("no ENTRY at all", new FaslDesk().damage(4, 0, 0));
    }

    private static void seals() {
        FaslDesk desk = Due.archive(2);
        goes(desk, 1);
        desk.damage(2, 1, 5);
        goes(desk, 0);
        desk.damage(2, 1, 1);
        goes(desk, 1);
        desk.damage(3, 1, 0);
        goes(desk, 0);
        desk.damage(3, 1, 99);
        goes(desk, 1);
        desk.damage(3, 1, 0);
        desk.damage(4, 1, 99);
        goes(desk, 1);
        desk.damage(3, 1, 0);
        goes(desk, 0);
        desk.damage(4, 1, 0);
        goes(desk, 1);
        desk.forge(1, 15, 21);
        goes(desk, 0);
        desk.forge(1, 15, 17);
        goes(desk, 1);
        desk.forge(1, 15, 18);
        desk.damage(4, 1, 0);
        goes(desk, 1);
        desk.forge(1, 15, 17);
        goes(desk, 0);
        desk.damage(0, 1, 3);
        desk.damage(1, 1, 3);
        DUE.is("the SEAL of another", desk.entry(0, 5), 1);
        desk.compile(1);
        goes(desk, 1);
    }

    private static void goes(FaslDesk desk, int want) {
        DUE.is("the SEAL goes", desk.entry(1, 5), want);
    }
}
