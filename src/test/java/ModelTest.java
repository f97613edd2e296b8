import java.util.ArrayList;
import java.util.List;
import java.util.Random;

/** Random runs of calls: FaslDesk and Model have to answer alike. The seeds are fixed, so a run can be run again. */
public final class ModelTest {
    private static final int RUNS = 3000, CALLS = 500;
    private static final int[] ODD = {Integer.MIN_VALUE, -1, 0, 1, 2, 7, 8, 31, 32, Integer.MAX_VALUE};
    private static final int[] FORGED = {2, 3, 4, 5, 6, 7, 8, 9, 10, 11, 12, 17, 18, 19, 20, 21};

    private final Random random;
    private final FaslDesk desk = new FaslDesk();
    private final Model model = new Model();
    private final List<String> told = new ArrayList<>();
    private int calls, sound, forgedLoads;
    private boolean right = true;

    private ModelTest(long seed) {
        random = new Random(seed);
    }

    public static void main(String[] args) {
        int defined = 0;
        int answered = 0;
        int forged = 0;
        for (int seed = 0; seed < RUNS; seed++) {
            ModelTest test = new ModelTest(seed);
            test.goOn();
            defined += test.desk.count(0);
            answered += test.sound;
            forged += test.forgedLoads;
            if (!test.right) {
                int from = Math.max(0, test.told.size() - 60);
                System.out.println("seed " + seed + ": "
                        + String.join("\n", test.told.subList(from, test.told.size())));
                System.exit(1);
            }
        }
        System.out.println(RUNS + " runs alike, " + defined + " forms, " + answered + " answers of code, " + forged
                + " loads of forged code");
        if (defined < 3 * RUNS || answered < 10 * RUNS || forged < RUNS / 2) {
            System.out.println("the runs are too tame to tell anything");
            System.exit(1);
        }
    }

    private void goOn() {
        for (int f = 0; f < 8; f++) {
            if (random.nextInt(3) > 0) {
                writeForm(f);
                compileOne(f);
            }
        }
        while (calls < CALLS && right) {
            switch (random.nextInt(12)) {
                case 0:
                    writeForm(small(7));
                    break;
                case 1:
                case 2:
                    stray();
                    break;
                case 3:
                case 4:
                    compileSome();
                    break;
                case 5:
                    damageSome();
                    break;
                case 6:
                case 7:
                    forgeSome();
                    break;
                case 8:
                    look();
                    break;
                default:
                    loadAndRun();
            }
        }
    }

    private String same(String call, Due.Call ours, Due.Call theirs) {
        calls++;
        String got = Due.outcome(ours);
        String want = Due.outcome(theirs);
        told.add(call + " answered " + got + (got.equals(want) ? "" : ", due is " + want));
        right = right && got.equals(want);
        return got;
    }

    private int small(int most) {
        return random.nextInt(25) == 0 ? ODD[random.nextInt(ODD.length)] : random.nextInt(most + 1);
    }

    private int number() {
        return random.nextInt(3) == 0 ? random.nextInt() : random.nextInt(3) == 0 ? ODD[random.nextInt(ODD.length)]
                : random.nextInt(40) - 20;
    }

    private void token(int op, int a) {
        same("token(" + op + ", " + a + ")", () -> desk.token(op, a), () -> model.token(op, a));
    }

    private void writeForm(int f) {
        int n = small(3);
        writePart(f, n, 1 + random.nextInt(4), 0);
        same("define(" + f + ", " + n + ")", () -> desk.define(f, n), () -> model.define(f, n));
        if (random.nextInt(6) > 0) {
            same("clear()", desk::clear, model::clear);
        }
    }

    /** A form that is mostly one as said: VARIABLES of LET and TIMES are in the known bits. */
    private void writePart(int f, int n, int depth, int known) {
        int kind = depth <= 0 ? random.nextInt(2) : random.nextInt(14);
        if (kind == 0) {
            token(0, number());
        } else if (kind == 1) {
            int v = random.nextInt(8) == 0 ? random.nextInt(7) : variable(n, known);
            token(v < 0 ? 0 : 1, v < 0 ? number() : v);
        } else if (kind <= 5) {
            token(2 + random.nextInt(10), number());
            writePart(f, n, depth - 1, known);
            writePart(f, n, depth - 1, known);
        } else if (kind == 6) {
            token(12, 0);
            writePart(f, n, depth - 1, known);
        } else if (kind <= 8) {
            token(13, random.nextInt(6));
            writePart(f, n, depth - 1, known);
            writePart(f, n, depth - 2, known);
            writePart(f, n, depth - 2, known);
        } else if (kind == 11) {
            int v = random.nextInt(8) == 0 ? random.nextInt(7) : variable(n, known);
            token(v < 0 ? 12 : 15, Math.max(v, 0));
            writePart(f, n, depth - 1, known);
        } else if (kind == 12 && f > 0) {
            token(17, random.nextInt(8) == 0 ? random.nextInt(8) : random.nextInt(Math.min(f, 7)));
            writePart(f, n, depth - 2, known);
            writePart(f, n, depth - 2, known);
            writePart(f, n, depth - 2, known);
        } else {
            int v = 3 + random.nextInt(4);
            token(kind == 9 || kind == 13 ? 14 : 16, v);
            writePart(f, n, depth - 2, known);
            writePart(f, n, depth - 1, known | 1 << v);
        }
    }

    private int variable(int n, int known) {
        int v = random.nextInt(7);
        for (int k = 0; k < 7; k++, v = (v + 1) % 7) {
            if (v < n || (known >> v & 1) != 0) {
                return v;
            }
        }
        return -1;
    }

    private void stray() {
        int op = small(17);
        int a = small(7);
        int e = small(8);
        token(op, a);
        if (random.nextInt(4) == 0) {
            same("drop(" + e + ")", () -> desk.drop(e), () -> model.drop(e));
        }
    }

    private void compileSome() {
        for (int k = random.nextInt(4); k >= 0; k--) {
            compileOne(small(7));
        }
    }

    private String compileOne(int f) {
        return same("compile(" + f + ")", () -> desk.compile(f), () -> model.compile(f));
    }

    /** Mostly an ENTRY that is there. */
    private int someEntry() {
        return small(Math.max(0, desk.count(1) - 1));
    }

    /** Mostly a FUNCTION that the IMAGE has. */
    private int someFunction() {
        int e = someEntry();
        return random.nextInt(6) == 0 ? small(7) : desk.entry(e, 0);
    }

    private void damageSome() {
        int part = small(4);
        int e = someEntry();
        int v = small(9);
        same("damage(" + part + ", " + e + ", " + v + ")", () -> desk.damage(part, e, v),
                () -> model.damage(part, e, v));
        same("load()", desk::load, model::load);
        if (random.nextInt(4) > 0) {
            int of = part == 1 ? desk.count(1) : part == 2 ? desk.entry(e, 4) : 0;
            same("damage(" + part + ", " + e + ", " + of + ")", () -> desk.damage(part, e, of),
                    () -> model.damage(part, e, of));
            seal(e);
        }
    }

    private void seal(int e) {
        same("damage(4, " + e + ", 0)", () -> desk.damage(4, e, 0), () -> model.damage(4, e, 0));
    }

    private void forgeSome() {
        int e = someEntry();
        int changed = 0;
        int wanted = 1 + random.nextInt(3);
        for (int k = 0; k < 6 && changed < wanted; k++) {
            int i = someUnit(e);
            int op = random.nextInt(12) == 0 ? small(22) : FORGED[random.nextInt(FORGED.length)];
            String got = same("forge(" + e + ", " + i + ", " + op + ")", () -> desk.forge(e, i, op),
                    () -> model.forge(e, i, op));
            changed += got.equals("-1") ? 0 : 1;
        }
        if (random.nextInt(6) > 0) {
            seal(e);
        }
        int fault = loadAndRun();
        forgedLoads += changed > 0 && fault == 0 ? 1 : 0;
        if (random.nextInt(4) > 0) {
            mend(fault);
        }
    }

    /** Mostly a unit that can be forged. */
    private int someUnit(int e) {
        int units = Math.max(1, desk.entry(e, 2));
        int i = small(units);
        for (int k = 0; k < 30 && random.nextInt(20) > 0 && "0 1 13 14 15 16".contains("" + desk.unit(e, i, 0)); k++) {
            i = random.nextInt(units);
        }
        return i;
    }

    private void look() {
        int e = someEntry();
        int i = small(60);
        for (int what = 0; what <= 8; what++) {
            int asked = what == 8 ? small(9) : what;
            same("count(" + asked + ")", () -> desk.count(asked), () -> model.count(asked));
            same("entry(" + e + ", " + asked + ")", () -> desk.entry(e, asked), () -> model.entry(e, asked));
        }
        for (int what = -1; what <= 3; what++) {
            int asked = what;
            same("unit(" + e + ", " + i + ", " + asked + ")", () -> desk.unit(e, i, asked),
                    () -> model.unit(e, i, asked));
        }
    }

    /** What takes the FAULT away, so that runs do not stay with one. */
    private void mend(int fault) {
        int e = desk.count(6);
        if (fault == 1) {
            same("damage(0, 0, 0)", () -> desk.damage(0, 0, 0), () -> model.damage(0, 0, 0));
        } else if (fault == 2 || fault == 3) {
            int entries = desk.count(1);
            same("damage(1, 0, " + entries + ")", () -> desk.damage(1, 0, entries), () -> model.damage(1, 0, entries));
        } else if (fault == 4) {
            seal(e);
        } else if (fault == 5) {
            same("drop(" + e + ")", () -> desk.drop(e), () -> model.drop(e));
        } else if (fault != 0) {
            int f = desk.entry(e, 0);
            if (compileOne(f).equals("-1")) {
                same("drop(" + e + ")", () -> desk.drop(e), () -> model.drop(e));
            }
        }
    }

    private int loadAndRun() {
        int fault = Integer.parseInt(same("load()", desk::load, model::load));
        if (random.nextInt(3) > 0) {
            mend(fault);
            same("load()", desk::load, model::load);
        }
        for (int k = random.nextInt(4); k >= 0; k--) {
            int f = someFunction();
            int x = number();
            int y = number();
            int z = number();
            String with = "(" + f + ", " + x + ", " + y + ", " + z + ")";
            same("interpret" + with, () -> desk.interpret(f, x, y, z), () -> model.interpret(f, x, y, z));
            String got = same("run" + with, () -> desk.run(f, x, y, z), () -> model.run(f, x, y, z));
            sound += got.startsWith("throws") ? 0 : 1;
        }
        return fault;
    }
}
