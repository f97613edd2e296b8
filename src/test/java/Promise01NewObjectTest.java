/** Promise 1: what a new object has. */
public final class Promise01NewObjectTest {
    public static void main(String[] args) {
        Sentences promise = new Sentences("Promise 1: A new object");
        promise.test("FUNCTIONS without PARAMETERS and forms,", Promise01NewObjectTest::noForms);
        promise.test("an empty draft,", Promise01NewObjectTest::emptyDraft);
        promise.test("an empty ARCHIVE (MAGIC 0, COUNT 0),", Promise01NewObjectTest::emptyArchive);
        promise.test("an empty IMAGE.", Promise01NewObjectTest::emptyImage);
        promise.end();
    }

    private static void noForms(Due due) {
        FaslDesk desk = new FaslDesk();
        due.is("FUNCTIONS that have a form", desk.count(0), 0);
        for (int f = 0; f <= 7; f++) {
            due.is("interpret " + f, Due.interpreted(desk, f, 1, 2, 3), Due.NO_SUCH);
            due.refused("compile " + f, desk.compile(f));
        }
        Due.archive(3);
        due.is("what another object is given is not its own", desk.count(0), 0);
    }

    private static void emptyDraft(Due due) {
        FaslDesk desk = new FaslDesk();
        due.is("tokens in the draft", desk.count(7), 0);
        due.refused("define of it", desk.define(0, 0));
        due.is("clear()", desk.clear(), 0);
        due.is("the first token", desk.token(0, 0), 1);
        due.is("another object has a draft of its own", new FaslDesk().count(7), 0);
    }

    private static void emptyArchive(Due due) {
        FaslDesk desk = new FaslDesk();
        due.is("ENTRIES", desk.count(1), 0);
        due.is("COUNT", desk.count(2), 0);
        for (int e = 0; e <= 7; e++) {
            due.refused("entry", desk.entry(e, 0));
            due.refused("unit", desk.unit(e, 0, 0));
            due.refused("forge", desk.forge(e, 0, 21));
            due.refused("drop", desk.drop(e));
            due.refused("damage", desk.damage(4, e, 0));
        }
        due.is("MAGIC and COUNT are right", desk.load(), 0);
    }

    private static void emptyImage(Due due) {
        FaslDesk desk = new FaslDesk();
        due.is("FUNCTIONS in the IMAGE", desk.count(3), 0);
        for (int f = 0; f <= 7; f++) {
            due.is("run " + f, Due.ran(desk, f, 1, 2, 3), Due.NO_SUCH);
        }
        due.is("IMAGES made", desk.count(4), 0);
        due.is("FAULTS found", desk.count(5), 0);
        due.is("ENTRY of the latest", desk.count(6), -1);
    }
}
