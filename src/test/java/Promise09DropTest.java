/** Promise 9: an ENTRY goes, and those behind it move up as they are. */
public final class Promise09DropTest {
    public static void main(String[] args) {
        Due due = new Due();
        FaslDesk desk = Due.archive(4);
        due.refused("drop(-1)", desk.drop(-1));
        due.refused("drop(4)", desk.drop(4));
        desk.damage(2, 2, 6);
        desk.damage(1, 0, 9);
        desk.damage(0, 0, 3);
        due.is("drop(1)", desk.drop(1), 1);
        due.is("ENTRIES", desk.count(1), 3);
        due.is("COUNT", desk.count(2), 3);
        due.is("MAGIC is still wrong", desk.load(), 1);
        due.is("the damaged one has moved up", desk.entry(1, 0), 6);
        due.is("its name too", desk.entry(1, 4), 2);
        due.is("its SEAL too", desk.entry(1, 5), 0);
        due.is("its units too", desk.unit(1, 14, 1), 102);
        due.is("the one behind", desk.entry(2, 0), 3);
        due.refused("none behind that", desk.entry(3, 0));
        due.is("the number that it has now", desk.drop(1), 6);
        due.is("the last", desk.drop(1), 3);
        due.is("the first", desk.drop(0), 0);
        due.refused("none left", desk.drop(0));
        due.is("COUNT 0", desk.count(2), 0);
        due.is("forms stay", desk.count(0), 4);
        due.is("a new one", desk.compile(2), 0);
        due.is("is whole", Due.units(desk, 0, 14), "PUSH 102,GIVE");
        due.is("and sealed", desk.entry(0, 5), 1);
        due.end();
    }
}
