/** Promise 10: what load answers (each FAULT: TermsArchiveTest). */
public final class Promise10LoadTest {
    public static void main(String[] args) {
        Sentences promise = new Sentences("Promise 10: load");
        promise.test("LOADING: 0,", Promise10LoadTest::zero);
        promise.test("or the FAULT.", Promise10LoadTest::faults);
        promise.end();
    }

    private static void zero(Due due) {
        FaslDesk desk = new FaslDesk();
        due.is("an empty ARCHIVE", desk.load(), 0);
        for (int f = 0; f <= 7; f++) {
            Due.defined(desk, f, 0, "INT" + f);
            desk.compile(f);
            due.is("with " + (f + 1), desk.load(), 0);
            due.is("again", desk.load(), 0);
            due.is("FUNCTIONS in the IMAGE", desk.count(3), f + 1);
        }
        due.is("IMAGES made", desk.count(4), 17);
        due.is("FAULTS found", desk.count(5), 0);
        due.is("the ARCHIVE is as it was", desk.count(1) + " " + desk.count(2), "8 8");
    }

    /** Each of 1 to 8 by itself, and mended again. */
    private static void faults(Due due) {
        FaslDesk desk = Due.archive(3);
        int[][][] breaks = {{{0, 0, 1}}, {{1, 0, 4}}, {{1, 0, 2}}, {{3, 1, 0}}, {{2, 1, 0}, {4, 1, 0}},
            {{3, 1, 0}, {4, 1, 0}}, {{2, 1, 6}, {4, 1, 0}}};
        int[][][] mends = {{{0, 0, 0}}, {{1, 0, 3}}, {{1, 0, 3}}, {{3, 1, 0}}, {{2, 1, 1}, {4, 1, 0}},
            {{3, 1, 0}, {4, 1, 0}}, {{2, 1, 1}, {4, 1, 0}}};
        for (int fault = 1; fault <= 7; fault++) {
            damage(desk, breaks[fault - 1]);
            due.is("load()", desk.load(), fault);
            due.is("it stays", desk.load(), fault);
            due.is("FAULTS and IMAGES", desk.count(5) + " " + desk.count(4), 2 * fault + " " + (fault - 1));
            damage(desk, mends[fault - 1]);
            due.is("mended", desk.load(), 0);
        }
        desk.forge(2, 15, 18);
        desk.damage(4, 2, 0);
        due.is("load()", desk.load(), 8);
        desk.forge(2, 15, 17);
        due.is("the SEAL is that of the forged one", desk.load(), 4);
        desk.damage(4, 2, 0);
        due.is("mended", desk.load(), 0);
    }

    private static void damage(FaslDesk desk, int[][] damages) {
        for (int[] d : damages) {
            desk.damage(d[0], d[1], d[2]);
        }
    }
}
