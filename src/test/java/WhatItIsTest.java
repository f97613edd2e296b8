/** "What it is": forms that are run in two ways, an ARCHIVE that is checked as a whole, and 512 calls. */
public final class WhatItIsTest {
    public static void main(String[] args) {
        Sentences intro = new Sentences("What it is");
        intro.test("A Lisp's compiler to classes of the machine, and its archive: functions of ints are forms that an "
                + "interpreter runs, or that are compiled into code;", WhatItIsTest::twoWays);
        intro.test("an archive of compiled ones is checked as a whole before any of it runs, linked in a fresh image,",
                WhatItIsTest::checkedAsAWhole);
        intro.test("and refused, leaving all as it was, if anything in it is damaged or its code does not go.",
                WhatItIsTest::leavesAllAsItWas);
        intro.test("An object is used for at most 512 calls after it has been made; what later calls answer is free.",
                WhatItIsTest::calls);
        intro.end();
    }

    private static void twoWays(Due due) {
        due.gives("LET3 INT0 ADD TIMES4 VAR0 SET3 ADD VAR3 VAR4 VAR3", 6, 0, 0, "21");
    }

    private static void checkedAsAWhole(Due due) {
        FaslDesk desk = Due.archive(8);
        desk.forge(7, 15, 21);
        desk.damage(4, 7, 0);
        due.is("the last does not go", desk.load(), 8);
        due.is("so none of the others runs", Due.ran(desk, 0, 0, 0, 0), Due.NO_SUCH);
        desk.drop(7);
        due.is("without it", desk.load(), 0);
        due.is("they do", Due.ran(desk, 0, 0, 0, 0), "100");
    }

    private static void leavesAllAsItWas(Due due) {
        FaslDesk desk = Due.archive(2);
        desk.load();
        desk.damage(2, 1, 6);
        desk.forge(0, 15, 20);
        due.is("load()", desk.load(), 4);
        due.is("the IMAGE", desk.count(3) + " " + Due.ran(desk, 0, 0, 0, 0) + " " + Due.ran(desk, 1, 0, 0, 0),
                "2 100 101");
        due.is("the ARCHIVE", desk.count(1) + " " + desk.count(2) + " " + desk.entry(1, 0) + " " + desk.entry(1, 4)
                + " " + desk.entry(0, 5) + " " + desk.entry(1, 5) + " " + desk.unit(0, 15, 0), "2 2 6 1 0 0 20");
        due.is("the forms", desk.count(0) + " " + Due.interpreted(desk, 1, 0, 0, 0), "2 101");
    }

    /** The 512th call is still answered as the first, whatever the 511 before it were. */
    private static void calls(Due due) {
        FaslDesk counter = new FaslDesk();
        for (int k = 1; k <= 511; k++) {
            due.is("load() " + k, counter.load(), 0);
        }
        due.is("the 512th", counter.count(4), 511);
        FaslDesk writer = new FaslDesk();
        for (int k = 0; k < 255; k++) {
            due.is("token", writer.token(0, k), 1);
            due.is("define", writer.define(k % 8, 0), 1);
        }
        due.is("the 511th", Due.interpreted(writer, 6, 0, 0, 0), "254");
        due.is("the 512th", writer.count(0), 8);
        FaslDesk keeper = new FaslDesk();
        // Each time something waits for what is thrown; it must not stay.
        Due.defined(keeper, 0, 1, "ADD INT1 ADD INT2 DIV INT1 VAR0");
        for (int k = 0; k < 100; k++) {
            due.is("compile", keeper.compile(0), 0);
            due.is("load", keeper.load(), 0);
            due.is("interpret", Due.interpreted(keeper, 0, 0, 0, 0), Due.ZERO);
            due.is("run", Due.ran(keeper, 0, 0, 0, 0), Due.ZERO);
            due.is("drop", keeper.drop(0), 0);
        }
        due.is("the 509th", keeper.count(4), 100);
        due.is("the 510th", keeper.count(1), 0);
        due.is("the 511th", Due.interpreted(keeper, 0, -1, 0, 0), "2");
        due.is("the 512th", Due.ran(keeper, 0, -1, 0, 0), "2");
    }
}
