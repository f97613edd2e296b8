import java.util.List;

/** What the tests share: forms written as words, answers or exceptions as texts, and a tally of what is not as due. */
final class Due {
    static final List<String> OPS = List.of("INT", "VAR", "ADD", "SUB", "MUL", "DIV", "REM", "AND", "OR", "XOR", "SHL",
            "SHR", "NEG", "IF", "LET", "SET", "TIMES", "CALL");
    static final List<String> UNITS = List.of("PUSH", "LOAD", "ADD", "SUB", "MUL", "DIV", "REM", "AND", "OR", "XOR",
            "SHL", "SHR", "NEG", "STORE", "IF", "GO", "CALL", "GIVE", "POP", "DUP", "SWAP", "NOTHING");
    static final String NO_SUCH = "throws.NoSuchElementException", ZERO = "throws.ArithmeticException",
            NOT_THERE = "throws.IllegalStateException";

    private final String about;
    private int asked, wrong;

    interface Call {
        int answer();
    }

    Due() {
        this("");
    }

    /** What the answers are about is told with each that is not as due. */
    Due(String about) {
        this.about = about;
    }

    void is(String what, Object got, Object want) {
        asked++;
        if (!got.equals(want)) {
            wrong++;
            System.out.println(about + what + " answered " + got + ", due is " + want);
        }
    }

    void refused(String what, int got) {
        is(what, got, FaslDesk.REFUSED);
    }

    boolean allAsDue() {
        return wrong == 0 && asked > 0;
    }

    /** Ends the test: with exit code 1 if an answer was not as due, or if none was asked for. */
    void end() {
        System.out.println(asked + " answers, " + wrong + " not as due");
        if (!allAsDue()) {
            System.exit(1);
        }
    }

    /** Whether the form may be that of FUNCTION f with n PARAMETERS. */
    void goes(int f, int n, String form, boolean want) {
        FaslDesk desk = new FaslDesk();
        int tokens = write(desk, form);
        is("define(" + f + ", " + n + ") of " + form, desk.define(f, n), want ? tokens : FaslDesk.REFUSED);
    }

    /** What comes of a form of FUNCTION 7 with three PARAMETERS, interpreted and compiled. */
    void gives(String form, int x, int y, int z, String want) {
        FaslDesk desk = desk(7, 3, form);
        is(form + " of " + x + " " + y + " " + z + " interpreted", interpreted(desk, 7, x, y, z), want);
        desk.compile(7);
        is(form + ": load()", desk.load(), 0);
        is(form + " of " + x + " " + y + " " + z + " compiled", ran(desk, 7, x, y, z), want);
    }

    /** What comes of FUNCTION f, which is loaded, by the interpreter and in the IMAGE. */
    void both(FaslDesk desk, int f, int x, int y, int z, String want) {
        is("interpret(" + f + ", " + x + ", " + y + ", " + z + ")", interpreted(desk, f, x, y, z), want);
        is("run(" + f + ", " + x + ", " + y + ", " + z + ")", ran(desk, f, x, y, z), want);
    }

    /** The STACK and the units of a form of FUNCTION 7 with three PARAMETERS, where it begins at unit 8. */
    void becomes(String form, int stack, String want) {
        FaslDesk desk = desk(7, 3, form);
        desk.compile(7);
        is("units of " + form, units(desk, 0, 8), want + ",GIVE");
        is("STACK of " + form, desk.entry(0, 3), stack);
    }

    static String outcome(Call call) {
        try {
            return Integer.toString(call.answer());
        } catch (RuntimeException e) {
            return "throws." + e.getClass().getSimpleName();
        }
    }

    static String interpreted(FaslDesk desk, int f, int x, int y, int z) {
        return outcome(() -> desk.interpret(f, x, y, z));
    }

    static String ran(FaslDesk desk, int f, int x, int y, int z) {
        return outcome(() -> desk.run(f, x, y, z));
    }

    /** Puts tokens such as "ADD VAR0 INT-7" into the draft; answers what the last one answered. */
    static int write(FaslDesk desk, String form) {
        int last = 0;
        for (String word : form.trim().split("\\s+")) {
            String name = word.replaceAll("-?[0-9]+$", "");
            String number = word.substring(name.length());
            last = desk.token(OPS.indexOf(name), number.isEmpty() ? 0 : Integer.parseInt(number));
        }
        return last;
    }

    static FaslDesk desk(int f, int n, String form) {
        FaslDesk desk = new FaslDesk();
        defined(desk, f, n, form);
        return desk;
    }

    static void defined(FaslDesk desk, int f, int n, String form) {
        write(desk, form);
        if (desk.define(f, n) < 0) {
            throw new IllegalStateException("the test's own form is refused: " + form);
        }
    }

    /** FUNCTIONS 0 to n - 1, each giving 100 more than its number, as so many ENTRIES. */
    static FaslDesk archive(int n) {
        FaslDesk desk = new FaslDesk();
        for (int f = 0; f < n; f++) {
            defined(desk, f, 0, "INT" + (100 + f));
            desk.compile(f);
        }
        return desk;
    }

    /** FUNCTION 7 with three PARAMETERS, compiled, some of its units (place, number) forged, and sealed anew. */
    static FaslDesk forged(String form, int... forged) {
        FaslDesk desk = desk(7, 3, form);
        desk.compile(7);
        for (int k = 0; k < forged.length; k += 2) {
            if (desk.forge(0, forged[k], forged[k + 1]) < 0) {
                throw new IllegalStateException("unit " + forged[k] + " of " + form + " cannot be forged");
            }
        }
        desk.damage(4, 0, 0);
        return desk;
    }

    /** The units of an ENTRY from one on, such as "PUSH 0,STORE 3,GIVE". */
    static String units(FaslDesk desk, int e, int from) {
        StringBuilder text = new StringBuilder();
        for (int i = from; i < desk.entry(e, 2); i++) {
            int op = desk.unit(e, i, 0);
            text.append(i > from ? "," : "").append(UNITS.get(op));
            if (op <= 1 || op >= 13 && op <= 16) {
                text.append(' ').append(desk.unit(e, i, 1));
            }
            if (op == 14) {
                text.append(' ').append(desk.unit(e, i, 2));
            }
        }
        return text.toString();
    }

    /**
     * All that can be asked of an object, by calls that change it, too, so it is asked but once. What is in the draft
     * is asked for as the form of FUNCTION 7 with three PARAMETERS.
     */
    static String all(FaslDesk desk) {
        StringBuilder text = new StringBuilder();
        for (int what = 0; what <= 7; what++) {
            text.append(desk.count(what)).append(' ');
        }
        for (int e = 0; e < desk.count(1); e++) {
            text.append("\nENTRY");
            for (int what = 0; what <= 5; what++) {
                text.append(' ').append(desk.entry(e, what));
            }
            text.append(' ').append(units(desk, e, 0));
        }
        text.append(answers(desk)).append("\nload ").append(desk.load()).append(answers(desk));
        text.append("\noctets ").append(octets(desk));
        text.append("\ndraft ").append(desk.define(7, 3)).append(' ').append(interpreted(desk, 7, 3, 2, 1));
        return text.toString();
    }

    private static String answers(FaslDesk desk) {
        StringBuilder text = new StringBuilder();
        for (int f = 0; f < 8; f++) {
            text.append("\nFUNCTION ").append(f).append(' ').append(interpreted(desk, f, 3, 2, 1)).append(' ')
                    .append(ran(desk, f, 3, 2, 1));
        }
        return text.toString();
    }

    /** Which ENTRIES have a changed octet, found by making all else right. */
    private static String octets(FaslDesk desk) {
        StringBuilder text = new StringBuilder();
        desk.damage(0, 0, 0);
        desk.damage(1, 0, desk.count(1));
        for (int e = 0; e < desk.count(1); e++) {
            desk.damage(2, e, desk.entry(e, 4));
            desk.damage(4, e, 0);
        }
        for (int k = 0; k < 8 && desk.load() == 6; k++) {
            int e = desk.count(6);
            text.append(e).append(' ');
            desk.damage(3, e, 0);
            desk.damage(4, e, 0);
        }
        return text.toString();
    }
}
