/** Promise 14: everything that is counted. */
public final class Promise14CountTest {
    private static final Due DUE = new Due();

    public static void main(String[] args) {
        FaslDesk desk = new FaslDesk();
        counts(desk, "0 0 0 0 0 0 -1 0");
        Due.write(desk, "ADD INT1 INT2");
        counts(desk, "0 0 0 0 0 0 -1 3");
        desk.define(4, 0);
        Due.defined(desk, 6, 0, "INT1");
        counts(desk, "2 0 0 0 0 0 -1 0");
        desk.compile(4);
        desk.compile(6);
        counts(desk, "2 2 2 0 0 0 -1 0");
        desk.load();
        counts(desk, "2 2 2 2 1 0 -1 0");
        desk.damage(3, 1, 0);
        desk.load();
        counts(desk, "2 2 2 2 1 1 1 0");
        desk.damage(1, 0, 7);
        desk.load();
        counts(desk, "2 2 7 2 1 2 -1 0");
        desk.drop(1);
        desk.damage(3, 0, 0);
        desk.load();
        counts(desk, "2 1 1 2 1 3 0 0");
        desk.damage(3, 0, 0);
        desk.load();
        counts(desk, "2 1 1 1 2 3 0 0");
        desk.drop(0);
        desk.load();
        counts(desk, "2 0 0 0 3 3 0 0");
        for (int what : new int[] {-1, 8, Integer.MIN_VALUE, Integer.MAX_VALUE}) {
            DUE.refused("count(" + what + ")", desk.count(what));
        }
        DUE.end();
    }

    private static void counts(FaslDesk desk, String want) {
        StringBuilder got = new StringBuilder();
        for (int what = 0; what < 8; what++) {
            got.append(what > 0 ? " " : "").append(desk.count(what));
        }
        DUE.is("count(0..7)", got.toString(), want);
    }
}
