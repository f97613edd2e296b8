/** "Terms", third part: THE ARCHIVE, LOADING with its FAULTS, the IMAGE, and refusals. */
public final class TermsArchiveTest {
    public static void main(String[] args) {
        Sentences terms = new Sentences("Terms", "THE ARCHIVE:", "");
        terms.test("THE ARCHIVE: a MAGIC (0 if it is right),", TermsArchiveTest::magic);
        terms.test("a COUNT,", TermsArchiveTest::stated);
        terms.test("and ENTRIES, 8 at most:", TermsArchiveTest::eightEntries);
        terms.test("each has the number of its FUNCTION, PARAMETERS, UNITS, STACK, the FUNCTION for which its class is "
                + "named,", TermsArchiveTest::whatAnEntryHas);
        terms.test("an octet of its class that is changed or not, and a SEAL, which goes or not.",
                TermsArchiveTest::octetAndSeal);
        terms.test("LOADING makes an IMAGE of what the ARCHIVE has:", TermsArchiveTest::makesAnImage);
        terms.test("the first of these that is so is the FAULT;", TermsArchiveTest::firstFault);
        terms.test("then the IMAGE stays as it was.", TermsArchiveTest::imageStays);
        terms.test("1 MAGIC: it is not 0.", TermsArchiveTest::magicFault);
        terms.test("2 SHORT: COUNT is above the number of ENTRIES.", TermsArchiveTest::shortFault);
        terms.test("3 MORE: it is below.", TermsArchiveTest::moreFault);
        terms.test("Then, by ENTRIES: 4 SEAL: it does not go;", TermsArchiveTest::sealFault);
        terms.test("5 TWICE: an earlier one has the same number.", TermsArchiveTest::twiceFault);
        terms.test("Then, by ENTRIES: 6 FORM: the octet is changed;", TermsArchiveTest::formFault);
        terms.test("7 NAME: its class is named for another FUNCTION.", TermsArchiveTest::nameFault);
        terms.test("Then, by ENTRIES: 8 CODE: its UNITS do not go:", TermsArchiveTest::codeFault);
        terms.test("going along all ways from UNIT 0 with an empty STACK,", TermsArchiveTest::allWays);
        terms.test("a UNIT finds too few on the STACK for what it takes (SWAP two),", TermsArchiveTest::tooFew);
        terms.test("or would leave more than STACK there,", TermsArchiveTest::moreThanStack);
        terms.test("or one is reached with different numbers on the STACK,", TermsArchiveTest::differentNumbers);
        terms.test("or the end is reached without GIVE.", TermsArchiveTest::endWithoutGive);
        terms.test("The IMAGE has the FUNCTIONS of the ENTRIES, with their UNITS;", TermsArchiveTest::imageHas);
        terms.test("what a CALL leads to is looked for in it when it is done for the first time (and found there each "
                + "time).", TermsArchiveTest::callsLookInImage);
        terms.test("The constants: `REFUSED = -1, FULL = -2`:", TermsArchiveTest::constants);
        terms.test("Refusals: a number is out of range, or there is no such thing;", TermsArchiveTest::refusals);
        terms.test("there is no room.", TermsArchiveTest::noRoom);
        terms.end();
    }

    /** The FAULT of a LOADING, and its ENTRY. */
    private static void faulty(Due due, String what, FaslDesk desk, int fault, int entry) {
        due.is(what, desk.load(), fault);
        due.is(what + ": ENTRY", desk.count(6), entry);
    }

    private static void number(FaslDesk desk, int e, int v) {
        desk.damage(2, e, v);
        desk.damage(4, e, 0);
    }

    private static void octet(FaslDesk desk, int e) {
        desk.damage(3, e, 0);
        desk.damage(4, e, 0);
    }

    /** ENTRIES of Due.archive have their GIVE at unit 15. */
    private static void give(FaslDesk desk, int e, int op) {
        desk.forge(e, 15, op);
        desk.damage(4, e, 0);
    }

    private static void magic(Due due) {
        FaslDesk desk = new FaslDesk();
        due.is("it is right at first", desk.load(), 0);
        for (int v = 1; v <= 7; v++) {
            desk.damage(0, 0, v);
            due.is("load() with " + v, desk.load(), 1);
        }
        desk.damage(0, 0, 0);
        due.is("load() with 0 again", desk.load(), 0);
    }

    private static void stated(Due due) {
        FaslDesk desk = new FaslDesk();
        due.is("COUNT at first", desk.count(2), 0);
        Due.defined(desk, 4, 0, "INT4");
        desk.compile(4);
        due.is("COUNT of one", desk.count(2), 1);
        desk.damage(1, 0, 9);
        due.is("it need not be right", desk.count(2) + " of " + desk.count(1), "9 of 1");
    }

    private static void eightEntries(Due due) {
        FaslDesk desk = Due.archive(7);
        due.is("seven", desk.count(1), 7);
        Due.defined(desk, 7, 0, "INT7");
        due.is("the eighth", desk.compile(7), 7);
        due.is("eight", desk.count(1), 8);
        desk.damage(2, 0, 1);
        due.is("a ninth", desk.compile(0), FaslDesk.FULL);
        due.is("still eight", desk.count(1), 8);
        due.refused("entry(8, 0)", desk.entry(8, 0));
    }

    private static void whatAnEntryHas(Due due) {
        FaslDesk desk = Due.desk(5, 2, "ADD VAR0 MUL VAR1 INT3");
        Due.defined(desk, 1, 3, "VAR2");
        desk.compile(5);
        desk.compile(1);
        int[][] wants = {{5, 2, 16, 3, 5}, {1, 3, 10, 1, 1}};
        for (int e = 0; e < 2; e++) {
            for (int what = 0; what <= 4; what++) {
                due.is("entry(" + e + ", " + what + ")", desk.entry(e, what), wants[e][what]);
            }
        }
        due.is("UNITS of 1", Due.units(desk, 1, 8), "LOAD 2,GIVE");
    }

    private static void octetAndSeal(Due due) {
        FaslDesk desk = Due.archive(2);
        due.is("SEAL of 0 at first", desk.entry(0, 5), 1);
        desk.damage(3, 1, 0);
        due.is("SEAL of 1, its octet changed", desk.entry(1, 5), 0);
        due.is("SEAL of 0 then", desk.entry(0, 5), 1);
        desk.damage(4, 1, 0);
        due.is("SEAL of 1 made anew", desk.entry(1, 5), 1);
        faulty(due, "the octet is changed still", desk, 6, 1);
    }

    private static void makesAnImage(Due due) {
        FaslDesk desk = new FaslDesk();
        due.is("of nothing", desk.load(), 0);
        due.is("it has none, and was made", desk.count(3) + " " + desk.count(4), "0 1");
        for (int f = 7; f >= 0; f--) {
            Due.defined(desk, f, 1, "ADD VAR0 INT" + f);
            desk.compile(f);
        }
        due.is("compiled is not loaded", Due.ran(desk, 7, 10, 0, 0), Due.NO_SUCH);
        due.is("of eight", desk.load(), 0);
        due.is("it has eight, and was made", desk.count(3) + " " + desk.count(4), "8 2");
        for (int f = 0; f <= 7; f++) {
            due.is("run " + f, Due.ran(desk, f, 10, 0, 0), "" + (10 + f));
        }
    }

    /** An ENTRY with everything wrong; then one thing after the other is mended. */
    private static void firstFault(Due due) {
        FaslDesk desk = Due.archive(3);
        desk.forge(1, 15, 21);
        desk.damage(3, 1, 0);
        desk.damage(2, 1, 0);
        desk.damage(1, 0, 4);
        desk.damage(0, 0, 1);
        faulty(due, "all at once", desk, 1, -1);
        desk.damage(0, 0, 0);
        faulty(due, "without MAGIC", desk, 2, -1);
        desk.damage(1, 0, 2);
        desk.damage(0, 0, 1);
        faulty(due, "MAGIC comes before MORE", desk, 1, -1);
        desk.damage(0, 0, 0);
        faulty(due, "COUNT below", desk, 3, -1);
        desk.damage(1, 0, 3);
        faulty(due, "COUNT right", desk, 4, 1);
        desk.damage(4, 1, 0);
        faulty(due, "sealed", desk, 5, 1);
        number(desk, 1, 5);
        faulty(due, "another number", desk, 6, 1);
        octet(desk, 1);
        faulty(due, "the octet as it was", desk, 7, 1);
        number(desk, 1, 1);
        faulty(due, "its own number", desk, 8, 1);
        give(desk, 1, 17);
        due.is("all mended", desk.load(), 0);
    }

    private static void imageStays(Due due) {
        for (int fault = 1; fault <= 8; fault++) {
            FaslDesk desk = Due.archive(2);
            desk.load();
            Due.defined(desk, 1, 0, "INT55");
            Due.defined(desk, 2, 0, "INT56");
            desk.compile(1);
            desk.compile(2);
            breakWith(desk, fault);
            due.is("load()", desk.load(), fault);
            due.is("FUNCTIONS as before", desk.count(3), 2);
            due.is("the old 0", Due.ran(desk, 0, 0, 0, 0), "100");
            due.is("the old 1", Due.ran(desk, 1, 0, 0, 0), "101");
            due.is("no 2", Due.ran(desk, 2, 0, 0, 0), Due.NO_SUCH);
            due.is("IMAGES made", desk.count(4), 1);
        }
        FaslDesk none = Due.archive(1);
        none.damage(0, 0, 1);
        none.load();
        due.is("an empty one stays empty", Due.ran(none, 0, 0, 0, 0), Due.NO_SUCH);
    }

    /** Makes the FAULT in the last of three ENTRIES, so that the others have gone before. */
    private static void breakWith(FaslDesk desk, int fault) {
        if (fault == 1) {
            desk.damage(0, 0, 7);
        } else if (fault <= 3) {
            desk.damage(1, 0, fault == 2 ? 4 : 2);
        } else if (fault == 4) {
            desk.damage(3, 2, 0);
        } else if (fault == 6) {
            octet(desk, 2);
        } else if (fault == 8) {
            give(desk, 2, 21);
        } else {
            number(desk, 2, fault == 5 ? 0 : 3);
        }
    }

    private static void magicFault(Due due) {
        FaslDesk desk = Due.archive(1);
        due.is("0", desk.load(), 0);
        for (int v = 1; v <= 7; v++) {
            desk.damage(0, 0, v);
            faulty(due, "MAGIC " + v, desk, 1, -1);
        }
        FaslDesk empty = new FaslDesk();
        empty.damage(0, 0, 1);
        faulty(due, "of an empty ARCHIVE", empty, 1, -1);
    }

    private static void shortFault(Due due) {
        for (int n : new int[] {0, 1, 7, 8}) {
            FaslDesk desk = Due.archive(n);
            due.is("as many", desk.load(), 0);
            for (int v = n + 1; v <= 9; v++) {
                desk.damage(1, 0, v);
                faulty(due, "COUNT " + v + " of " + n, desk, 2, -1);
            }
        }
    }

    private static void moreFault(Due due) {
        for (int n : new int[] {1, 2, 8}) {
            FaslDesk desk = Due.archive(n);
            for (int v = 0; v < n; v++) {
                desk.damage(1, 0, v);
                faulty(due, "COUNT " + v + " of " + n, desk, 3, -1);
            }
            desk.damage(1, 0, n);
            due.is("as many", desk.load(), 0);
        }
    }

    private static void sealFault(Due due) {
        for (int e = 0; e < 3; e++) {
            FaslDesk octet = Due.archive(3);
            octet.damage(3, e, 0);
            faulty(due, "the octet", octet, 4, e);
            FaslDesk number = Due.archive(3);
            number.damage(2, e, 7);
            faulty(due, "the number", number, 4, e);
            FaslDesk unit = Due.archive(3);
            unit.forge(e, 15, 21);
            faulty(due, "a UNIT", unit, 4, e);
        }
        FaslDesk desk = Due.archive(4);
        desk.damage(3, 3, 0);
        desk.damage(3, 1, 0);
        faulty(due, "the first of two", desk, 4, 1);
        desk.damage(3, 1, 0);
        octet(desk, 0);
        faulty(due, "SEAL in 3 comes before FORM in 0", desk, 4, 3);
        octet(desk, 0);
        give(desk, 0, 18);
        faulty(due, "SEAL in 3 comes before CODE in 0", desk, 4, 3);
    }

    private static void twiceFault(Due due) {
        FaslDesk desk = Due.archive(4);
        number(desk, 2, 0);
        faulty(due, "2 has the number of 0", desk, 5, 2);
        desk.damage(3, 3, 0);
        faulty(due, "TWICE in 2 comes before SEAL in 3", desk, 5, 2);
        desk.damage(3, 2, 0);
        faulty(due, "in the same ENTRY SEAL comes before", desk, 4, 2);
        desk.damage(3, 2, 0);
        octet(desk, 0);
        faulty(due, "TWICE in 2 comes before FORM in 0", desk, 5, 2);
        FaslDesk swapped = Due.archive(2);
        number(swapped, 0, 1);
        faulty(due, "it is told of the later one", swapped, 5, 1);
        number(swapped, 1, 0);
        faulty(due, "each has the other's number: not twice", swapped, 7, 0);
    }

    private static void formFault(Due due) {
        for (int e = 0; e < 3; e++) {
            FaslDesk desk = Due.archive(3);
            octet(desk, e);
            faulty(due, "the octet of " + e, desk, 6, e);
            octet(desk, e);
            due.is("as it was again", desk.load(), 0);
        }
        FaslDesk desk = Due.archive(3);
        octet(desk, 1);
        give(desk, 0, 18);
        faulty(due, "FORM in 1 comes before CODE in 0", desk, 6, 1);
        number(desk, 1, 7);
        faulty(due, "in the same ENTRY FORM comes before NAME", desk, 6, 1);
    }

    private static void nameFault(Due due) {
        for (int e = 0; e < 3; e++) {
            FaslDesk desk = Due.archive(3);
            number(desk, e, 7);
            faulty(due, "the name of " + e, desk, 7, e);
            number(desk, e, e);
            due.is("its own again", desk.load(), 0);
        }
        FaslDesk desk = Due.archive(3);
        number(desk, 1, 7);
        octet(desk, 2);
        faulty(due, "NAME in 1 comes before FORM in 2", desk, 7, 1);
        octet(desk, 2);
        give(desk, 0, 18);
        faulty(due, "NAME in 1 comes before CODE in 0", desk, 7, 1);
    }

    private static void codeFault(Due due) {
        for (int e = 0; e < 3; e++) {
            FaslDesk desk = Due.archive(3);
            give(desk, e, 21);
            faulty(due, "the code of " + e, desk, 8, e);
            give(desk, e, 17);
            due.is("as it was again", desk.load(), 0);
        }
        FaslDesk desk = Due.archive(3);
        give(desk, 2, 21);
        give(desk, 1, 18);
        faulty(due, "the first of two", desk, 8, 1);
    }

    /** The FAULT of FUNCTION 7 with three PARAMETERS (its form begins at unit 8), with forged units. */
    private static void code(Due due, String what, int fault, String form, int... forged) {
        due.is(what, Due.forged(form, forged).load(), fault);
    }

    private static void allWays(Due due) {
        code(due, "as it is", 0, "IF0 VAR0 NEG VAR1 NEG VAR2");
        code(due, "the way of Y", 8, "IF0 VAR0 NEG VAR1 NEG VAR2", 11, 18);
        code(due, "the way of Z", 8, "IF0 VAR0 NEG VAR1 NEG VAR2", 14, 18);
        code(due, "a Y that is never chosen", 8, "IF0 INT1 NEG VAR1 NEG VAR2", 11, 20);
        code(due, "a Z that is never chosen", 8, "IF0 INT0 NEG VAR1 NEG VAR2", 14, 20);
        code(due, "the Y of a TIMES of no rounds", 8, "TIMES3 INT0 NEG VAR0", 15, 20);
        code(due, "behind a TIMES", 8, "NEG TIMES3 INT0 VAR0", 22, 20);
        code(due, "what no way reaches", 0, "NEG NEG VAR0", 9, 17, 10, 2, 11, 18);
        code(due, "what no way reaches, as both give", 0, "NEG IF0 VAR0 NEG VAR1 NEG VAR2", 11, 17, 14, 17, 15, 20, 16,
                18);
        code(due, "what one way reaches, as the other gives", 8, "NEG IF0 VAR0 NEG VAR1 NEG VAR2", 11, 17, 15, 20);
        code(due, "with an empty STACK", 8, "NEG VAR0", 9, 18);
    }

    /** In each of these the rest goes, even with fewer than none on the STACK, so that nothing else is at fault. */
    private static void tooFew(Due due) {
        for (int op = 2; op <= 11; op++) {
            code(due, "unit " + op + " finds one", 8, "ADD NEG INT1 ADD INT2 INT3", 9, op, 13, 21);
            code(due, "unit " + op + " finds two", 0, "ADD INT1 NEG INT2", 10, 21, 11, op);
        }
        code(due, "NEG finds none", 8, "ADD NEG NEG INT1 INT2", 9, 18, 12, 21);
        code(due, "NEG finds one", 0, "NEG INT1");
        code(due, "STORE finds none", 8, "ADD SET0 INT1 ADD INT2 INT3", 9, 18, 13, 21, 14, 21);
        code(due, "STORE finds one", 0, "ADD SET0 INT1 ADD INT2 INT3", 9, 21, 14, 21);
        code(due, "IF finds none", 8, "IF1 NEG VAR0 ADD INT1 INT2 ADD INT1 INT2", 9, 18, 13, 21, 17, 21);
        code(due, "CALL finds none", 8, "ADD CALL0 NEG INT1 NEG INT2 NEG INT3 ADD INT4 ADD INT5 INT6", 9, 18, 11, 18,
                13, 18, 18, 21, 19, 21, 20, 21);
        code(due, "CALL finds two", 8, "ADD CALL0 INT1 INT2 NEG INT3 INT4", 11, 18, 14, 21);
        code(due, "CALL finds three", 0, "ADD CALL0 INT1 INT2 NEG INT3 INT4", 11, 21, 14, 21);
        code(due, "GIVE finds none", 8, "NEG VAR0", 9, 18);
        code(due, "GIVE finds two", 0, "ADD INT1 INT2", 10, 21);
        code(due, "POP finds none", 8, "ADD NEG NEG INT1 ADD INT2 INT3", 9, 18, 10, 18, 13, 21, 14, 21);
        code(due, "POP finds one", 0, "ADD NEG INT1 INT2", 9, 18, 11, 21);
        code(due, "DUP finds none", 8, "NEG NEG ADD INT1 VAR0", 10, 18, 11, 18, 12, 19);
        code(due, "DUP finds one", 0, "ADD NEG NEG INT1 INT2", 9, 19, 10, 18);
        code(due, "SWAP finds one", 8, "NEG VAR0", 9, 20);
        code(due, "SWAP finds none", 8, "ADD NEG NEG INT1 INT2", 9, 18, 10, 20, 12, 21);
        code(due, "SWAP finds two", 0, "ADD VAR0 VAR1", 10, 20);
        code(due, "NOTHING finds none", 0, "ADD NEG NEG INT1 INT2", 9, 18, 10, 21, 12, 21);
    }

    private static void moreThanStack(Due due) {
        code(due, "DUP leaves one more", 8, "NEG VAR0", 9, 19);
        code(due, "DUP leaves as many as STACK", 0, "SUB NEG NEG VAR0 VAR1", 9, 19, 10, 18);
        code(due, "PUSH leaves one more", 8, "ADD ADD INT1 INT2 INT3", 10, 21);
        code(due, "LOAD leaves one more", 8, "ADD ADD VAR0 VAR1 VAR2", 10, 21);
        code(due, "PUSH leaves as many as STACK", 0, "ADD NEG INT1 NEG INT2");
        code(due, "SWAP of as many as STACK", 0, "ADD VAR0 VAR1", 10, 20);
        code(due, "in a way that is never chosen", 8, "IF0 INT1 NEG VAR1 VAR2", 11, 19);
        code(due, "on a higher STACK", 0, "ADD NEG VAR0 ADD VAR1 VAR2", 9, 21, 12, 21, 13, 21);
    }

    private static void differentNumbers(Due due) {
        String wide = "ADD INT1 IF0 VAR0 ADD VAR1 VAR1 ADD VAR2 VAR2";
        code(due, "the ways of an IF meet as they are", 0, wide);
        code(due, "more by Y", 8, wide, 13, 21);
        code(due, "more by Z", 8, wide, 17, 21);
        code(due, "more by both", 0, wide, 13, 21, 17, 21);
        code(due, "Y gives before they meet", 0, wide, 13, 17);
        String loop = "ADD INT9 ADD TIMES3 INT3 NEG VAR0 ADD INT1 ADD INT2 ADD INT3 INT4";
        code(due, "a loop as it is", 0, loop);
        code(due, "a loop comes back with more", 8, loop, 16, 19);
        code(due, "a loop comes back with fewer", 8, loop, 16, 18);
        code(due, "a loop comes back with as many", 0, loop, 16, 21);
        code(due, "a loop does not come back", 0, loop, 16, 17);
    }

    private static void endWithoutGive(Due due) {
        code(due, "NOTHING in its place", 8, "VAR0", 9, 21);
        code(due, "NEG in its place", 8, "VAR0", 9, 12);
        code(due, "ADD in its place", 8, "ADD NEG VAR0 VAR1", 11, 21, 12, 2);
        code(due, "GIVE before it", 0, "NEG VAR0", 9, 17, 10, 21);
        String either = "IF0 VAR0 NEG VAR1 NEG VAR2";
        code(due, "GIVE in the way of Y alone", 8, either, 11, 17, 15, 21);
        code(due, "GIVE in the way of Z alone", 8, either, 14, 17, 15, 21);
        code(due, "GIVE in both ways", 0, either, 11, 17, 14, 17, 15, 21);
    }

    private static void imageHas(Due due) {
        FaslDesk desk = Due.archive(3);
        desk.load();
        desk.forge(0, 15, 21);
        desk.damage(2, 1, 7);
        desk.drop(2);
        Due.defined(desk, 0, 0, "INT9");
        desk.compile(0);
        for (int f = 0; f < 3; f++) {
            due.is("as loaded: " + f, Due.ran(desk, f, 0, 0, 0), "" + (100 + f));
        }
        due.is("not the number of now", Due.ran(desk, 7, 0, 0, 0), Due.NO_SUCH);
        desk.drop(1);
        due.is("load()", desk.load(), 0);
        due.is("one is left", desk.count(3), 1);
        due.is("the new 0", Due.ran(desk, 0, 0, 0, 0), "9");
        due.is("no 1", Due.ran(desk, 1, 0, 0, 0), Due.NO_SUCH);
        FaslDesk forged = Due.forged("SUB VAR0 VAR1", 10, 4);
        forged.load();
        due.is("the UNITS, not the form", Due.ran(forged, 7, 6, 7, 0) + " " + Due.interpreted(forged, 7, 6, 7, 0),
                "42 -1");
    }

    private static void callsLookInImage(Due due) {
        FaslDesk desk = Due.desk(0, 1, "MUL VAR0 INT2");
        Due.defined(desk, 3, 1, "CALL0 VAR0 INT0 INT0");
        Due.defined(desk, 5, 2, "IF0 VAR0 INT7 CALL3 VAR1 INT0 INT0");
        desk.compile(5);
        due.is("it need not be there to be loaded", desk.load(), 0);
        due.is("nor if the CALL is not done", Due.ran(desk, 5, 0, 4, 0), "7");
        due.is("when it is done", Due.ran(desk, 5, 1, 4, 0), Due.NOT_THERE);
        due.is("each time", Due.ran(desk, 5, 1, 4, 0), Due.NOT_THERE);
        due.is("still not if it is not done", Due.ran(desk, 5, 0, 4, 0), "7");
        desk.compile(3);
        due.is("load()", desk.load(), 0);
        due.is("nor what that one leads to", Due.ran(desk, 5, 0, 4, 0), "7");
        due.is("when that is done", Due.ran(desk, 5, 1, 4, 0), Due.NOT_THERE);
        due.is("by itself, too", Due.ran(desk, 3, 4, 0, 0), Due.NOT_THERE);
        desk.compile(0);
        due.is("what is compiled is not in the IMAGE", Due.ran(desk, 5, 1, 4, 0), Due.NOT_THERE);
        desk.load();
        due.is("loaded", Due.ran(desk, 5, 1, 4, 0), "8");
        due.is("found each time", Due.ran(desk, 5, 1, 5, 0), "10");
        Due.defined(desk, 0, 1, "MUL VAR0 INT3");
        desk.compile(0);
        due.is("found as loaded", Due.ran(desk, 5, 1, 4, 0), "8");
        desk.load();
        due.is("a fresh IMAGE has the other", Due.ran(desk, 5, 1, 4, 0), "12");
        desk.drop(2);
        desk.load();
        due.is("a fresh IMAGE has none", Due.ran(desk, 5, 1, 4, 0), Due.NOT_THERE);
        due.is("what needs none goes", Due.ran(desk, 5, 0, 4, 0), "7");
    }

    private static void constants(Due due) {
        due.is("REFUSED", FaslDesk.REFUSED, -1);
        due.is("FULL", FaslDesk.FULL, -2);
    }

    /**
     * Four ENTRIES (the second with a changed octet, the third divides by 0, the last leads to a FUNCTION that is not
     * there), an IMAGE, and a draft that is a form with three PARAMETERS.
     */
    private static FaslDesk busy() {
        FaslDesk desk = Due.desk(0, 1, "MUL VAR0 INT2");
        Due.defined(desk, 1, 2, "CALL0 ADD VAR0 VAR1 INT0 INT0");
        Due.defined(desk, 2, 3, "DIV VAR0 SUB VAR1 VAR1");
        Due.defined(desk, 6, 0, "CALL5 INT1 INT2 INT3");
        for (int f : new int[] {1, 0, 2, 6}) {
            desk.compile(f);
        }
        desk.load();
        octet(desk, 1);
        Due.write(desk, "NEG VAR2");
        return desk;
    }

    private interface Use {
        int of(FaslDesk desk);
    }

    private static void refused(Due due, String what, Use use) {
        FaslDesk desk = busy();
        due.refused(what, use.of(desk));
        due.is("all after " + what, Due.all(desk), Due.all(busy()));
    }

    private static void thrown(Due due, String what, Use use, String want) {
        FaslDesk desk = busy();
        due.is(what, Due.outcome(() -> use.of(desk)), want);
        due.is("all after " + what, Due.all(desk), Due.all(busy()));
    }

    /** A refused call changes nothing that can be asked for. */
    private static void refusals(Due due) {
        int[][] tokens = {{-1, 0}, {18, 0}, {1, 7}, {15, -1}, {13, 6}, {14, 2}, {16, 7}, {17, 8}};
        for (int[] t : tokens) {
            refused(due, "token(" + t[0] + ", " + t[1] + ")", desk -> desk.token(t[0], t[1]));
        }
        int[][] defines = {{-1, 3}, {8, 3}, {0, -1}, {0, 4}, {0, 2}};
        for (int[] d : defines) {
            refused(due, "define(" + d[0] + ", " + d[1] + ")", desk -> desk.define(d[0], d[1]));
        }
        for (int f : new int[] {-1, 5, 8}) {
            refused(due, "compile(" + f + ")", desk -> desk.compile(f));
            thrown(due, "interpret(" + f + ", 0, 0, 0)", desk -> desk.interpret(f, 0, 0, 0), Due.NO_SUCH);
            thrown(due, "run(" + f + ", 0, 0, 0)", desk -> desk.run(f, 0, 0, 0), Due.NO_SUCH);
        }
        thrown(due, "interpret(2, 1, 1, 1)", desk -> desk.interpret(2, 1, 1, 1), Due.ZERO);
        thrown(due, "run(2, 1, 1, 1)", desk -> desk.run(2, 1, 1, 1), Due.ZERO);
        thrown(due, "interpret(6, 1, 1, 1)", desk -> desk.interpret(6, 1, 1, 1), Due.NO_SUCH);
        thrown(due, "run(6, 1, 1, 1)", desk -> desk.run(6, 1, 1, 1), Due.NOT_THERE);
        int[][] damages = {{-1, 0, 0}, {5, 0, 0}, {0, 0, -1}, {0, 0, 8}, {1, 0, -1}, {1, 0, 10}, {2, 0, -1}, {2, 0, 8},
            {2, -1, 0}, {2, 4, 0}, {3, -1, 0}, {3, 4, 0}, {4, -1, 0}, {4, 4, 0}};
        for (int[] d : damages) {
            refused(due, "damage(" + d[0] + ", " + d[1] + ", " + d[2] + ")", desk -> desk.damage(d[0], d[1], d[2]));
        }
        int[][] forges = {{-1, 14, 2}, {4, 14, 2}, {0, -1, 2}, {0, 99, 2}, {0, 0, 2}, {0, 12, 1}, {0, 12, 13},
            {0, 12, 22}};
        for (int[] f : forges) {
            refused(due, "forge(" + f[0] + ", " + f[1] + ", " + f[2] + ")", desk -> desk.forge(f[0], f[1], f[2]));
        }
        for (int e : new int[] {-1, 4, 8}) {
            refused(due, "drop(" + e + ")", desk -> desk.drop(e));
            refused(due, "entry(" + e + ", 0)", desk -> desk.entry(e, 0));
            refused(due, "unit(" + e + ", 0, 0)", desk -> desk.unit(e, 0, 0));
        }
        for (int what : new int[] {-1, 8}) {
            refused(due, "count(" + what + ")", desk -> desk.count(what));
        }
    }

    private static void noRoom(Due due) {
        FaslDesk desk = new FaslDesk();
        Due.write(desk, "NEG ".repeat(39) + "VAR2");
        due.is("a 41st token", desk.token(0, 9), FaslDesk.FULL);
        due.is("tokens", desk.count(7), 40);
        due.is("the 40 are as they were", desk.define(7, 3) + " " + Due.interpreted(desk, 7, 1, 2, 3), "40 -3");
        FaslDesk full = Due.archive(8);
        full.load();
        full.damage(2, 0, 1);
        full.damage(1, 0, 5);
        due.is("a ninth ENTRY", full.compile(0), FaslDesk.FULL);
        due.is("ENTRIES, COUNT, IMAGE", full.count(1) + " " + full.count(2) + " " + full.count(3), "8 5 8");
        for (int e = 0; e < 8; e++) {
            due.is("ENTRY " + e, full.entry(e, 0) + " " + full.entry(e, 4) + " " + full.entry(e, 5) + " "
                    + Due.units(full, e, 14), (e == 0 ? 1 : e) + " " + e + (e == 0 ? " 0" : " 1") + " PUSH "
                    + (100 + e) + ",GIVE");
        }
    }
}
