/** Promise 4: the draft is emptied, and nothing else is. */
public final class Promise04ClearTest {
    public static void main(String[] args) {
        Sentences promise = new Sentences("Promise 4: clear");
        promise.test("The draft is empty:", Promise04ClearTest::isEmpty);
        promise.test("how many tokens it had.", Promise04ClearTest::howMany);
        promise.end();
    }

    private static void isEmpty(Due due) {
        FaslDesk desk = Due.archive(2);
        desk.load();
        Due.write(desk, "INT5");
        desk.clear();
        due.is("tokens", desk.count(7), 0);
        due.refused("nothing to define", desk.define(0, 0));
        Due.write(desk, "NEG ".repeat(39) + "INT5");
        desk.clear();
        due.is("a full one has room again", desk.token(0, 9), 1);
        due.is("nothing is left of it", desk.define(0, 0), 1);
        due.is("forms, ENTRIES, COUNT, IMAGE stay", desk.count(0) + " " + desk.count(1) + " " + desk.count(2) + " "
                + desk.count(3), "2 2 2 2");
        due.is("FUNCTION 1 of the IMAGE stays", Due.ran(desk, 1, 0, 0, 0), "101");
    }

    private static void howMany(Due due) {
        FaslDesk desk = new FaslDesk();
        due.is("an empty one", desk.clear(), 0);
        for (int tokens = 1; tokens <= 40; tokens++) {
            Due.write(desk, "NEG ".repeat(tokens));
            due.is("clear()", desk.clear(), tokens);
        }
        Due.write(desk, "NEG ".repeat(41));
        due.is("a full one", desk.clear(), 40);
        due.is("again", desk.clear(), 0);
    }
}
