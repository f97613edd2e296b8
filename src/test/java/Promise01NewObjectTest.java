/** Promise 1: what a new object has. */
public final class Promise01NewObjectTest {
    public static void main(String[] args) {
        Due due = new Due();
        FaslDesk desk = new FaslDesk();
        int[] counts = {0, 0, 0, 0, 0, 0, -1, 0};
        for (int what = 0; what < counts.length; what++) {
            due.is("count(" + what + ")", desk.count(what), counts[what]);
        }
        for (int f = 0; f < 8; f++) {
            due.is("interpret", Due.interpreted(desk, f, 1, 2, 3), Due.NO_SUCH);
            due.is("run", Due.ran(desk, f, 1, 2, 3), Due.NO_SUCH);
            due.refused("compile", desk.compile(f));
            due.refused("entry", desk.entry(f, 0));
            due.refused("drop", desk.drop(f));
        }
        due.is("clear()", desk.clear(), 0);
        due.refused("define of an empty draft", desk.define(0, 0));
        due.is("load() of an empty ARCHIVE with MAGIC 0 and COUNT 0", desk.load(), 0);
        due.is("an empty IMAGE was made", desk.count(4), 1);
        due.is("and has no FUNCTION", desk.count(3), 0);
        FaslDesk other = Due.archive(3);
        due.is("objects share nothing", desk.count(1), 0);
        due.is("the other has its own", other.count(1), 3);
        due.end();
    }
}
