/** Promise 10: the FAULTS, their order, and that one leaves the IMAGE as it was. */
public final class Promise10LoadTest {
    private static final Due DUE = new Due();

    public static void main(String[] args) {
        orderOfFaults();
        orderByEntries();
        codes();
        imageStays();
        imageIsFresh();
        DUE.end();
    }

    private static void faulty(String what, FaslDesk desk, int fault, int entry) {
        DUE.is(what, desk.load(), fault);
        DUE.is(what + ": ENTRY", desk.count(6), entry);
    }

    private static void orderOfFaults() {
        FaslDesk desk = Due.archive(3);
        desk.forge(1, 15, 21);
        desk.damage(3, 1, 0);
        desk.damage(2, 1, 0);
        desk.damage(1, 0, 4);
        desk.damage(0, 0, 1);
        faulty("all at once", desk, 1, -1);
        desk.damage(0, 0, 0);
        faulty("without MAGIC", desk, 2, -1);
        desk.damage(1, 0, 2);
        faulty("COUNT below", desk, 3, -1);
        desk.damage(1, 0, 3);
        faulty("COUNT right", desk, 4, 1);
        desk.damage(4, 1, 0);
        faulty("sealed", desk, 5, 1);
        desk.damage(2, 1, 5);
        desk.damage(4, 1, 0);
        faulty("another number", desk, 6, 1);
        desk.damage(3, 1, 0);
        desk.damage(4, 1, 0);
        faulty("the octet as it was", desk, 7, 1);
        desk.damage(2, 1, 1);
        desk.damage(4, 1, 0);
        faulty("its own number", desk, 8, 1);
        desk.forge(1, 15, 17);
        desk.damage(4, 1, 0);
        DUE.is("all mended", desk.load(), 0);
        DUE.is("the latest FAULT's ENTRY stays", desk.count(6), 1);
        DUE.is("FAULTS", desk.count(5), 8);
        DUE.is("IMAGES", desk.count(4), 1);
        for (int magic = 1; magic <= 7; magic++) {
            desk.damage(0, 0, magic);
            faulty("MAGIC " + magic, desk, 1, -1);
        }
        desk.damage(0, 0, 0);
        desk.damage(1, 0, 0);
        faulty("COUNT 0", desk, 3, -1);
        FaslDesk empty = new FaslDesk();
        empty.damage(1, 0, 1);
        faulty("COUNT 1 of none", empty, 2, -1);
    }

    private static void orderByEntries() {
        FaslDesk desk = Due.archive(4);
        desk.damage(2, 1, 0);
        desk.damage(4, 1, 0);
        desk.damage(3, 2, 0);
        faulty("TWICE in 1 comes before SEAL in 2", desk, 5, 1);
        desk.damage(3, 0, 0);
        faulty("SEAL in 0 comes before both", desk, 4, 0);
        desk.damage(4, 0, 0);
        faulty("SEAL and TWICE come before FORM in 0", desk, 5, 1);
        desk.damage(2, 1, 1);
        desk.damage(4, 1, 0);
        faulty("SEAL in 2 comes before FORM in 0", desk, 4, 2);
        desk.damage(4, 2, 0);
        faulty("FORM in 0", desk, 6, 0);
        desk.damage(3, 0, 0);
        desk.damage(2, 0, 7);
        desk.damage(4, 0, 0);
        faulty("NAME in 0 comes before FORM in 2", desk, 7, 0);
        desk.damage(2, 0, 0);
        desk.forge(0, 15, 18);
        desk.damage(4, 0, 0);
        faulty("FORM in 2 comes before CODE in 0", desk, 6, 2);
        desk.damage(3, 2, 0);
        desk.damage(4, 2, 0);
        faulty("CODE in 0", desk, 8, 0);
        FaslDesk three = Due.archive(3);
        three.damage(2, 2, 0);
        three.damage(4, 2, 0);
        faulty("TWICE is told of the later one", three, 5, 2);
        three.damage(2, 2, 2);
        three.damage(4, 2, 0);
        three.damage(2, 0, 1);
        three.damage(4, 0, 0);
        faulty("two swapped halfway", three, 5, 1);
        three.damage(2, 1, 0);
        three.damage(4, 1, 0);
        faulty("two swapped are named for each other", three, 7, 0);
    }

    /** The FAULT of FUNCTION 7 with three PARAMETERS (its form begins at unit 8) when units are forged and sealed. */
    private static int faultOf(String form, int... forged) {
        FaslDesk desk = Due.desk(7, 3, form);
        desk.compile(7);
        for (int k = 0; k < forged.length; k += 2) {
            if (desk.forge(0, forged[k], forged[k + 1]) < 0) {
                return -1;
            }
        }
        desk.damage(4, 0, 0);
        return desk.load();
    }

    private static void codes() {
        String sum = "ADD VAR0 VAR1";
        int[] faults = {0, 0, 0, 0, 0, 0, 0, 0, 0, 0, 0, -1, -1, -1, -1, 0, 0, 8, 0, 0};
        for (int op = 2; op <= 21; op++) {
            DUE.is("ADD forged into " + op, faultOf(sum, 10, op), faults[op - 2]);
        }
        DUE.is("GIVE finds nothing", faultOf("NEG VAR0", 9, 18), 8);
        DUE.is("ADD finds one", faultOf("NEG VAR0", 9, 2), 8);
        DUE.is("SWAP finds one", faultOf("NEG VAR0", 9, 20), 8);
        DUE.is("DUP leaves more than STACK", faultOf("NEG VAR0", 9, 19), 8);
        DUE.is("NOTHING", faultOf("NEG VAR0", 9, 21), 0);
        DUE.is("NEG finds none", faultOf("NEG NEG VAR0", 9, 18), 8);
        DUE.is("DUP finds none", faultOf("NEG NEG ADD INT1 VAR0", 10, 18, 11, 18, 12, 19), 8);
        DUE.is("POP finds none", faultOf("NEG NEG VAR0", 9, 18, 10, 18), 8);
        DUE.is("GIVE early leaves the rest out", faultOf("NEG NEG VAR0", 9, 17, 10, 2, 11, 18), 0);
        DUE.is("the end without GIVE", faultOf("VAR0", 9, 21), 8);
        DUE.is("the end without GIVE, by NEG", faultOf("VAR0", 9, 12), 8);
        String either = "IF0 VAR0 NEG VAR1 NEG VAR2";
        DUE.is("one way gives early", faultOf(either, 11, 17), 0);
        DUE.is("one way has fewer", faultOf(either, 11, 18), 8);
        DUE.is("both ways have fewer", faultOf(either, 11, 18, 14, 18), 8);
        String wide = "ADD INT1 IF0 VAR0 ADD VAR1 VAR1 ADD VAR2 VAR2";
        DUE.is("ways meet with other numbers", faultOf(wide, 13, 21), 8);
        DUE.is("ways meet with the same number", faultOf(wide, 13, 21, 17, 21), 0);
        DUE.is("ways meet, both with one more than can be", faultOf(wide, 13, 19, 17, 19), 8);
        DUE.is("both ways give", faultOf(wide, 13, 17, 17, 17, 18, 18, 19, 21), 0);
        String loop = "TIMES3 INT3 NEG VAR0";
        DUE.is("a loop as it is", faultOf(loop), 0);
        DUE.is("GIVE in a loop", faultOf(loop, 15, 17), 0);
        DUE.is("POP in a loop", faultOf(loop, 15, 18), 8);
        DUE.is("DUP in a loop", faultOf(loop, 15, 19), 8);
        DUE.is("AND of a TIMES", faultOf(loop, 10, 2), -1);
        String set = "SET0 INT5";
        DUE.is("SET without DUP", faultOf(set, 9, 21), 8);
        DUE.is("STORE finds none", faultOf(set, 9, 18), 8);
        String call = "CALL0 NEG INT1 NEG INT2 NEG INT3";
        DUE.is("CALL finds two", faultOf(call, 13, 18), 8);
        DUE.is("CALL finds four", faultOf(call, 9, 19), 8);
        DUE.is("CALL finds three", faultOf(call, 13, 21), 0);
        DUE.is("IF finds none", faultOf("IF1 NEG VAR0 INT1 INT2", 9, 18), 8);
    }

    private static void imageStays() {
        FaslDesk desk = Due.archive(2);
        DUE.is("load()", desk.load(), 0);
        Due.defined(desk, 1, 0, "INT55");
        Due.defined(desk, 2, 0, "INT56");
        desk.compile(1);
        desk.compile(2);
        desk.damage(3, 2, 0);
        DUE.is("a FAULT in the last", desk.load(), 4);
        DUE.is("FUNCTIONS as before", desk.count(3), 2);
        DUE.is("the old 1", Due.ran(desk, 1, 0, 0, 0), "101");
        DUE.is("no 2", Due.ran(desk, 2, 0, 0, 0), Due.NO_SUCH);
        DUE.is("one IMAGE", desk.count(4), 1);
        desk.damage(3, 2, 0);
        DUE.is("mended", desk.load(), 0);
        DUE.is("the new 1", Due.ran(desk, 1, 0, 0, 0), "55");
        DUE.is("the new 2", Due.ran(desk, 2, 0, 0, 0), "56");
    }

    private static void imageIsFresh() {
        FaslDesk desk = Due.archive(3);
        desk.load();
        desk.forge(0, 15, 21);
        desk.damage(2, 1, 7);
        desk.drop(2);
        DUE.is("0 as loaded", Due.ran(desk, 0, 0, 0, 0), "100");
        DUE.is("1 as loaded", Due.ran(desk, 1, 0, 0, 0), "101");
        DUE.is("2 as loaded", Due.ran(desk, 2, 0, 0, 0), "102");
        desk.drop(0);
        desk.drop(0);
        DUE.is("an empty one", desk.load(), 0);
        DUE.is("has none", desk.count(3), 0);
        DUE.is("not even 0", Due.ran(desk, 0, 0, 0, 0), Due.NO_SUCH);
        DUE.is("two IMAGES", desk.count(4), 2);
    }
}
