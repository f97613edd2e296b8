import java.util.List;

/** What the tests share: forms written as words, answers or exceptions as texts, and a tally of what is not as due. */
final class Due {
    static final List<String> OPS = List.of("INT", "VAR", "ADD", "SUB", "MUL", "DIV", "REM", "AND", "OR", "XOR", "SHL",
            "SHR", "NEG", "IF", "LET", "SET", "TIMES", "CALL");
    static final List<String> UNITS = List.of("PUSH", "LOAD", "ADD", "SUB", "MUL", "DIV", "REM", "AND", "OR", "XOR",
            "SHL", "SHR", "NEG", "STORE", "IF", "GO", "CALL", "GIVE", "POP", "DUP", "SWAP", "NOTHING");
    static final String NO_SUCH = "throws.NoSuchElementException", ZERO = "throws.ArithmeticException",
            NOT_THERE = "throws.IllegalStateException";

    private int asked, wrong;

    interface Call {
        int answer();
    }

    void is(String what, Object got, Object want) {
        asked++;
        if (!got.equals(want)) {
            wrong++;
            System.out.println(what + " answered " + got + ", due is " + want);
        }
    }

    void refused(String what, int got) {
        is(what, got, FaslDesk.REFUSED);
    }

    /** Ends the test: with exit code 1 if an answer was not as due, or if none was asked for. */
    void end() {
        System.out.println(asked + " answers, " + wrong + " not as due");
        if (wrong != 0 || asked == 0) {
            System.exit(1);
        }
    }

    static String outcome(Call call) {
        try {
            return Integer.toString(call.answer());
        } catch (RuntimeException e) {
            return "throws." + e.getClass().getSimpleName();
        }
    }

    static String interpreted(FaslDesk desk, int f, int x, int y, int z) {
        return outcome(() -> desk.interpret(f, x, y, z));
    }

    static String ran(FaslDesk desk, int f, int x, int y, int z) {
        return outcome(() -> desk.run(f, x, y, z));
    }

    /** Puts tokens such as "ADD VAR0 INT-7" into the draft; answers what the last one answered. */
    static int write(FaslDesk desk, String form) {
        int last = 0;
        for (String word : form.trim().split("\\s+")) {
            String name = word.replaceAll("-?[0-9]+$", "");
            String number = word.substring(name.length());
            last = desk.token(OPS.indexOf(name), number.isEmpty() ? 0 : Integer.parseInt(number));
        }
        return last;
    }

    /** Whether the form may be that of FUNCTION f with n PARAMETERS, tried on an object of its own. */
    static boolean goes(int f, int n, String form) {
        FaslDesk desk = new FaslDesk();
        int tokens = write(desk, form);
        int answer = desk.define(f, n);
        return answer == tokens;
    }

    static FaslDesk desk(int f, int n, String form) {
        FaslDesk desk = new FaslDesk();
        defined(desk, f, n, form);
        return desk;
    }

    static void defined(FaslDesk desk, int f, int n, String form) {
        write(desk, form);
        if (desk.define(f, n) < 0) {
            throw new IllegalStateException("the test's own form is refused: " + form);
        }
    }

    /** FUNCTIONS 0 to n - 1, each giving 100 more than its number, as so many ENTRIES. */
    static FaslDesk archive(int n) {
        FaslDesk desk = new FaslDesk();
        for (int f = 0; f < n; f++) {
            defined(desk, f, 0, "INT" + (100 + f));
            desk.compile(f);
        }
        return desk;
    }

    /** The units of an ENTRY from one on, such as "PUSH 0,STORE 3,GIVE". */
    static String units(FaslDesk desk, int e, int from) {
        StringBuilder text = new StringBuilder();
        for (int i = from; i < desk.entry(e, 2); i++) {
            int op = desk.unit(e, i, 0);
            text.append(i > from ? "," : "").append(UNITS.get(op));
            if (op <= 1 || op >= 13 && op <= 16) {
                text.append(' ').append(desk.unit(e, i, 1));
            }
            if (op == 14) {
                text.append(' ').append(desk.unit(e, i, 2));
            }
        }
        return text.toString();
    }
}
