/** Promise 6: where the ENTRY of a FUNCTION stands, and what it has then (which units: TermsCodeTest). */
public final class Promise06CompileTest {
    public static void main(String[] args) {
        Sentences promise = new Sentences("Promise 6: compile");
        promise.test("FUNCTION f is compiled, into the ARCHIVE: the number of its ENTRY",
                Promise06CompileTest::numberOfItsEntry);
        promise.test("(the one with that number of a FUNCTION, if there is one;",
                Promise06CompileTest::theOneThatIsThere);
        promise.test("its class is named for f,", Promise06CompileTest::namedForIt);
        promise.test("the SEAL goes),", Promise06CompileTest::sealGoes);
        promise.test("and COUNT is the number of ENTRIES.", Promise06CompileTest::countIsRight);
        promise.test("REFUSED if it has no form;", Promise06CompileTest::noForm);
        promise.test("FULL if there are 8 ENTRIES.", Promise06CompileTest::full);
        promise.end();
    }

    private static void numberOfItsEntry(Due due) {
        FaslDesk desk = new FaslDesk();
        for (int f = 7; f >= 0; f--) {
            Due.defined(desk, f, f % 4, "INT" + f);
            due.is("compile(" + f + ")", desk.compile(f), 7 - f);
            due.is("ENTRIES", desk.count(1), 8 - f);
            due.is("its number and PARAMETERS", desk.entry(7 - f, 0) + " " + desk.entry(7 - f, 1), f + " " + f % 4);
        }
        due.is("the IMAGE has none of it", desk.count(3), 0);
    }

    private static void theOneThatIsThere(Due due) {
        FaslDesk desk = Due.desk(5, 1, "VAR0");
        Due.defined(desk, 2, 0, "INT2");
        desk.compile(5);
        desk.compile(2);
        Due.defined(desk, 5, 1, "ADD INT1 ADD INT2 IF0 VAR0 INT3 INT4");
        due.is("a larger one", desk.compile(5) + " " + desk.entry(0, 3), "0 3");
        Due.defined(desk, 5, 2, "NEG NEG NEG NEG NEG VAR1");
        due.is("nothing is left of it", desk.compile(5), 0);
        due.is("not its PARAMETERS", desk.entry(0, 1), 2);
        due.is("not its STACK", desk.entry(0, 3), 1);
        due.is("not its units", Due.units(desk, 0, 10), "LOAD 1,NEG,NEG,NEG,NEG,NEG,GIVE");
        due.is("not the b of its IF", desk.unit(0, 15, 2), 0);
        due.is("still two", desk.count(1), 2);
        due.is("the other is as it was", Due.units(desk, 1, 14), "PUSH 2,GIVE");
        desk.damage(2, 0, 3);
        due.is("none has 5 now", desk.compile(5), 2);
        desk.damage(2, 1, 5);
        due.is("the first that has 5", desk.compile(5), 1);
    }

    private static void namedForIt(Due due) {
        FaslDesk desk = Due.archive(3);
        due.is("named for 2", desk.entry(2, 4), 2);
        desk.damage(2, 2, 6);
        Due.defined(desk, 6, 0, "INT66");
        due.is("the one that has 6, named for 2", desk.compile(6), 2);
        due.is("is named for 6", desk.entry(2, 4), 6);
        due.is("so it goes", desk.load(), 0);
        due.is("and runs", Due.ran(desk, 6, 0, 0, 0), "66");
    }

    private static void sealGoes(Due due) {
        FaslDesk desk = Due.archive(2);
        due.is("of a new one", desk.entry(1, 5), 1);
        desk.forge(1, 15, 21);
        due.is("of a forged one", desk.entry(1, 5), 0);
        due.is("compiled anew", desk.compile(1) + " " + desk.entry(1, 5), "1 1");
        due.is("its units are whole", Due.units(desk, 1, 14), "PUSH 101,GIVE");
        desk.damage(3, 1, 0);
        desk.compile(1);
        due.is("with an octet that was changed", desk.entry(1, 5), 1);
        due.is("the class is a new one", desk.load(), 0);
        desk.damage(3, 0, 0);
        desk.compile(1);
        due.is("that of another is not made anew", desk.entry(0, 5), 0);
    }

    private static void countIsRight(Due due) {
        FaslDesk desk = new FaslDesk();
        for (int f = 0; f <= 7; f++) {
            Due.defined(desk, f, 0, "INT1");
            desk.damage(1, 0, 9);
            desk.compile(f);
            due.is("COUNT", desk.count(2), f + 1);
        }
        desk.damage(1, 0, 0);
        desk.compile(3);
        due.is("COUNT when none is new", desk.count(2), 8);
        desk.damage(0, 0, 1);
        desk.compile(3);
        due.is("MAGIC is not mended", desk.load(), 1);
    }

    private static void noForm(Due due) {
        FaslDesk desk = new FaslDesk();
        Due.defined(desk, 4, 0, "INT4");
        for (int f : new int[] {Integer.MIN_VALUE, -1, 0, 3, 5, 7, 8, Integer.MAX_VALUE}) {
            due.refused("compile(" + f + ")", desk.compile(f));
        }
        due.is("ENTRIES and COUNT", desk.count(1) + " " + desk.count(2), "0 0");
        desk.compile(4);
        desk.damage(2, 0, 3);
        desk.damage(1, 0, 7);
        due.refused("an ENTRY has the number, but there is no form", desk.compile(3));
        due.is("COUNT is not made right then", desk.count(2), 7);
    }

    private static void full(Due due) {
        FaslDesk desk = Due.archive(7);
        Due.defined(desk, 7, 0, "INT7");
        due.is("there are 7", desk.compile(7), 7);
        desk.damage(2, 3, 0);
        desk.damage(1, 0, 2);
        due.is("there are 8", desk.compile(3), FaslDesk.FULL);
        due.is("ENTRIES and COUNT", desk.count(1) + " " + desk.count(2), "8 2");
        due.refused("no form comes before", desk.compile(8));
        // There is room for one that is there already.
        due.is("one that is there", desk.compile(7), 7);
        desk.drop(0);
        due.is("room again", desk.compile(3), 7);
    }
}
