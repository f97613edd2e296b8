/** Promise 4: the draft is emptied, and nothing else is. */
public final class Promise04ClearTest {
    public static void main(String[] args) {
        Due due = new Due();
        FaslDesk desk = Due.archive(2);
        desk.load();
        due.is("an empty draft", desk.clear(), 0);
        Due.write(desk, "ADD INT1 INT2");
        due.is("three tokens", desk.clear(), 3);
        due.is("none are left", desk.clear(), 0);
        due.is("none are counted", desk.count(7), 0);
        due.refused("nothing to define", desk.define(0, 0));
        for (int n = 0; n < 40; n++) {
            desk.token(12, 0);
        }
        due.is("a full draft", desk.clear(), 40);
        due.is("has room again", desk.token(0, 0), 1);
        due.is("forms stay", desk.count(0), 2);
        due.is("ENTRIES stay", desk.count(1), 2);
        due.is("the IMAGE stays", Due.ran(desk, 1, 0, 0, 0), "101");
        due.end();
    }
}
