import java.util.Arrays;
import java.util.NoSuchElementException;

/** A small Lisp's desk: forms of ints, their interpreter, their compiler, its archive, and the image made of that. */
public final class FaslDesk {
    public static final int REFUSED = -1, FULL = -2;

    private static final int FUNCTIONS = 8, MOST_PARAMETERS = 3, VARIABLES = 7, MOST_ENTRIES = 8;
    private static final int MOST_TOKENS = 40, MOST_PARTS = 3;
    private static final int MOST_CALLS = 2, MOST_TIMES = 2, TIMES_BITS = 7;
    /* 40 tokens make 250 units at most (19 TIMES, 20 leaves, a SET), 14 stand before them and a GIVE behind. */
    private static final int MOST_UNITS = 265;
    /* A value waits for a token further right, so 40 do; SET and TIMES put up to two more on top. */
    private static final int MOST_VALUES = 42;
    /* A unit is done at most 49 times in one activation, so this is far above what any needs. */
    private static final int MOST_STEPS = 1_000_000;
    private static final int NONE = -1;

    private final Form draft = new Form();
    private final Interpreter interpreter = new Interpreter();
    private final Compiler compiler = new Compiler();
    private final Archive archive = new Archive();
    private final Image image = new Image();
    private int imagesMade, faultsFound, latestFaultAt;

    public FaslDesk() {
        latestFaultAt = NONE;
    }

    public int token(int op, int a) {
        if (!Form.allows(op, a)) {
            return REFUSED;
        }
        if (draft.length >= MOST_TOKENS) {
            return FULL;
        }
        draft.append(op, a);
        return draft.length;
    }

    public int define(int f, int n) {
        if (!within(f, 0, FUNCTIONS - 1) || !within(n, 0, MOST_PARAMETERS) || !draft.isOneFormOf(f, n)) {
            return REFUSED;
        }
        interpreter.forms[f].becomes(draft, n);
        draft.length = 0;
        return interpreter.forms[f].length;
    }

    public int clear() {
        int had = draft.length;
        draft.length = 0;
        return had;
    }

    public int interpret(int f, int x, int y, int z) throws NoSuchElementException, ArithmeticException {
        return interpreter.answer(f, x, y, z);
    }

    public int compile(int f) {
        if (!interpreter.has(f)) {
            return REFUSED;
        }
        int e = archive.placeFor(f);
        if (e >= MOST_ENTRIES) {
            return FULL;
        }
        compiler.translate(interpreter.forms[f], archive.entries[e]);
        archive.entries[e].finishFor(f);
        archive.keepWith(e);
        return e;
    }

    public int damage(int part, int e, int v) {
        switch (part) {
            case 0:
                return damageMagic(v);
            case 1:
                return damageStated(v);
            case 2:
                return damageNumber(e, v);
            case 3:
                return damageOctet(e);
            case 4:
                return sealAnew(e);
            default:
                return REFUSED;
        }
    }

    public int forge(int e, int i, int op) {
        if (!hasUnit(e, i) || !Code.forgeable(op)) {
            return REFUSED;
        }
        Entry forged = archive.entries[e];
        int before = forged.code.op[i];
        if (!Code.forgeable(before) || forged.ofTimes[i]) {
            return REFUSED;
        }
        forged.code.op[i] = op;
        return before;
    }

    public int drop(int e) {
        return archive.has(e) ? archive.remove(e) : REFUSED;
    }

    public int load() {
        int fault = archive.findFault();
        if (fault != Archive.NO_FAULT) {
            faultsFound++;
            latestFaultAt = archive.faultAt;
            return fault;
        }
        image.remake(archive);
        imagesMade++;
        return Archive.NO_FAULT;
    }

    public int run(int f, int x, int y, int z)
            throws NoSuchElementException, ArithmeticException, IllegalStateException {
        if (!image.has(f)) {
            throw new NoSuchElementException("the IMAGE has no such FUNCTION");
        }
        return image.answer(f, x, y, z);
    }

    public int entry(int e, int what) {
        if (!archive.has(e)) {
            return REFUSED;
        }
        Entry asked = archive.entries[e];
        switch (what) {
            case 0:
                return asked.number;
            case 1:
                return asked.parameters;
            case 2:
                return asked.code.length;
            case 3:
                return asked.stack;
            case 4:
                return asked.namedFor;
            case 5:
                return asked.sealGoes() ? 1 : 0;
            default:
                return REFUSED;
        }
    }

    public int unit(int e, int i, int what) {
        if (!hasUnit(e, i)) {
            return REFUSED;
        }
        Code code = archive.entries[e].code;
        switch (what) {
            case 0:
                return code.op[i];
            case 1:
                return code.first[i];
            case 2:
                return code.second[i];
            default:
                return REFUSED;
        }
    }

    public int count(int what) {
        switch (what) {
            case 0:
                return interpreter.size();
            case 1:
                return archive.size;
            case 2:
                return archive.stated;
            case 3:
                return image.size();
            case 4:
                return imagesMade;
            case 5:
                return faultsFound;
            case 6:
                return latestFaultAt;
            case 7:
                return draft.length;
            default:
                return REFUSED;
        }
    }

    private int damageMagic(int v) {
        if (!within(v, 0, 7)) {
            return REFUSED;
        }
        archive.magic = v;
        return 1;
    }

    private int damageStated(int v) {
        if (!within(v, 0, 9)) {
            return REFUSED;
        }
        archive.stated = v;
        return 1;
    }

    private int damageNumber(int e, int v) {
        if (!archive.has(e) || !within(v, 0, FUNCTIONS - 1)) {
            return REFUSED;
        }
        archive.entries[e].number = v;
        return 1;
    }

    private int damageOctet(int e) {
        if (!archive.has(e)) {
            return REFUSED;
        }
        Entry hit = archive.entries[e];
        hit.octetChanged = !hit.octetChanged;
        return 1;
    }

    private int sealAnew(int e) {
        if (!archive.has(e)) {
            return REFUSED;
        }
        archive.entries[e].makeSeal();
        return 1;
    }

    private boolean hasUnit(int e, int i) {
        return archive.has(e) && i >= 0 && i < archive.entries[e].code.length;
    }

    private static boolean within(int v, int least, int most) {
        return v >= least && v <= most;
    }

    /** What the interpreter and the image reckon alike. */
    private static final class Ints {
        static int reckon(int op, int x, int y) {
            switch (op) {
                case 2:
                    return x + y;
                case 3:
                    return x - y;
                case 4:
                    return x * y;
                case 5:
                    return x / divisor(y);
                case 6:
                    return x % divisor(y);
                case 7:
                    return x & y;
                case 8:
                    return x | y;
                case 9:
                    return x ^ y;
                case 10:
                    return x << (y & 31);
                default:
                    return x >> (y & 31);
            }
        }

        static boolean isAsSaid(int test, int x) {
            switch (test) {
                case 0:
                    return x == 0;
                case 1:
                    return x != 0;
                case 2:
                    return x < 0;
                case 3:
                    return x >= 0;
                case 4:
                    return x > 0;
                default:
                    return x <= 0;
            }
        }

        private static int divisor(int y) {
            if (y == 0) {
                throw new ArithmeticException("ZERO");
            }
            return y;
        }
    }

    /** A row of tokens: the draft, or the form of a FUNCTION (which has none while the row is empty). */
    private static final class Form {
        static final int INT = 0, VAR = 1, NEG = 12, IF = 13, LET = 14, SET = 15, TIMES = 16, CALL = 17;
        /* How many forms stand behind each token as its X, Y and Z. */
        static final int[] PARTS = {0, 0, 2, 2, 2, 2, 2, 2, 2, 2, 2, 2, 1, 3, 2, 1, 2, 3};

        final int[] op = new int[MOST_TOKENS], a = new int[MOST_TOKENS];
        int length, parameters;
        private final int[] starts = new int[MOST_TOKENS * MOST_PARTS];

        static boolean allows(int op, int a) {
            switch (op) {
                case VAR:
                case SET:
                    return within(a, 0, VARIABLES - 1);
                case IF:
                    return within(a, 0, 5);
                case LET:
                case TIMES:
                    return within(a, MOST_PARAMETERS, VARIABLES - 1);
                case CALL:
                    return within(a, 0, FUNCTIONS - 1);
                default:
                    return within(op, INT, CALL);
            }
        }

        void append(int newOp, int newA) {
            if (length < MOST_TOKENS) {
                op[length] = newOp;
                a[length] = newA;
                length++;
            }
        }

        void becomes(Form other, int newParameters) {
            System.arraycopy(other.op, 0, op, 0, MOST_TOKENS);
            System.arraycopy(other.a, 0, a, 0, MOST_TOKENS);
            System.arraycopy(other.starts, 0, starts, 0, MOST_TOKENS * MOST_PARTS);
            length = other.length;
            parameters = newParameters;
        }

        int start(int place, int part) {
            return starts[place * MOST_PARTS + part];
        }

        /* It also notes where the parts of each token start, for the interpreter and the compiler. */
        boolean isOneFormOf(int f, int n) {
            int known = (1 << n) - 1;
            return callsGo(f) && endOf(0, known, 0, 0) == length;
        }

        private boolean callsGo(int f) {
            int calls = 0;
            boolean lower = true;
            for (int place = 0; place < length; place++) {
                if (op[place] == CALL) {
                    calls++;
                    lower = lower && a[place] < f;
                }
            }
            return lower && calls <= MOST_CALLS;
        }

        /*
         * The place behind the form at this one, or NONE. Bit a of known says that VARIABLE a may be read here, of
         * counters that this is within the Y of a TIMES a. Every level stands further right in the row, so there are
         * no more levels than tokens.
         */
        private int endOf(int place, int known, int counters, int times) {
            if (place < 0 || place >= length || !mayStand(place, known, counters, times)) {
                return NONE;
            }
            boolean isTimes = op[place] == TIMES;
            int bit = 1 << a[place];
            int next = place + 1;
            for (int part = 0; part < PARTS[op[place]]; part++) {
                boolean inBody = part == 1 && (isTimes || op[place] == LET);
                starts[place * MOST_PARTS + part] = next;
                next = endOf(next, inBody ? known | bit : known, inBody && isTimes ? counters | bit : counters,
                        isTimes ? times + 1 : times);
            }
            return next;
        }

        private boolean mayStand(int place, int known, int counters, int times) {
            boolean isKnown = (known >> a[place] & 1) != 0;
            boolean counts = (counters >> a[place] & 1) != 0;
            switch (op[place]) {
                case VAR:
                    return isKnown;
                case SET:
                    return isKnown && !counts;
                case LET:
                    return !counts;
                case TIMES:
                    return !counts && times < MOST_TIMES;
                case CALL:
                    return times == 0;
                default:
                    return true;
            }
        }
    }

    /**
     * The VARIABLES and values of a FUNCTION that is being run. CALLS lead to lower ones alone, so one for each is
     * enough. A value that has no room or is not there is left out, so that no index goes astray.
     */
    private static final class Frame {
        final int[] variables = new int[VARIABLES];
        private final int[] values = new int[MOST_VALUES];
        private int size;

        void begin(int parameters, int x, int y, int z) {
            Arrays.fill(variables, 0);
            variables[0] = parameters > 0 ? x : 0;
            variables[1] = parameters > 1 ? y : 0;
            variables[2] = parameters > 2 ? z : 0;
            size = 0;
        }

        void push(int v) {
            if (size < MOST_VALUES) {
                values[size] = v;
                size++;
            }
        }

        int pop() {
            if (size == 0) {
                return 0;
            }
            size--;
            return values[size];
        }

        int top() {
            return size == 0 ? 0 : values[size - 1];
        }
    }

    /** The forms within one another at which the interpreter is, and how many parts of each it has gone into. */
    private static final class OpenForms {
        private final int[] places = new int[MOST_TOKENS], parts = new int[MOST_TOKENS];
        private int size;

        void begin() {
            size = 0;
            enter(0);
        }

        boolean isEmpty() {
            return size == 0;
        }

        int place() {
            return isEmpty() ? 0 : places[size - 1];
        }

        int partsDone() {
            return isEmpty() ? 0 : parts[size - 1];
        }

        void enterPart(int place) {
            if (!isEmpty()) {
                parts[size - 1]++;
            }
            enter(place);
        }

        void leave() {
            if (!isEmpty()) {
                size--;
            }
        }

        /* What a form's last part gives is what the form gives, so the form need not wait for it. */
        void goOnAs(int place) {
            leave();
            enter(place);
        }

        private void enter(int place) {
            if (size < MOST_TOKENS) {
                places[size] = place;
                parts[size] = 0;
                size++;
            }
        }
    }

    /**
     * The FUNCTIONS' forms, and what runs them. It keeps a row of the forms that are open, as methods for forms within
     * one another, and that for each CALL within another, would nest too deep.
     */
    private static final class Interpreter {
        final Form[] forms = new Form[FUNCTIONS];
        private final Frame[] frames = new Frame[FUNCTIONS];
        private final OpenForms[] opens = new OpenForms[FUNCTIONS];

        Interpreter() {
            for (int f = 0; f < FUNCTIONS; f++) {
                forms[f] = new Form();
                frames[f] = new Frame();
                opens[f] = new OpenForms();
            }
        }

        boolean has(int f) {
            return within(f, 0, FUNCTIONS - 1) && forms[f].length > 0;
        }

        int size() {
            int defined = 0;
            for (int f = 0; f < FUNCTIONS; f++) {
                if (has(f)) {
                    defined++;
                }
            }
            return defined;
        }

        private int answer(int f, int x, int y, int z) {
            if (!has(f)) {
                throw new NoSuchElementException("the FUNCTION has no form");
            }
            frames[f].begin(forms[f].parameters, x, y, z);
            opens[f].begin();
            for (int step = 0; step < MOST_STEPS && !opens[f].isEmpty(); step++) {
                advance(f);
            }
            return frames[f].pop();
        }

        private void advance(int f) {
            Form form = forms[f];
            int place = opens[f].place();
            int done = opens[f].partsDone();
            int op = form.op[place];
            if (op == Form.IF && done == 1) {
                choose(f, place);
            } else if (op == Form.LET && done == 1) {
                frames[f].variables[form.a[place]] = frames[f].pop();
                opens[f].goOnAs(form.start(place, 1));
            } else if (op == Form.TIMES && done > 0) {
                goRound(f, place, done == 1);
            } else if (done < Form.PARTS[op]) {
                opens[f].enterPart(form.start(place, done));
            } else {
                opens[f].leave();
                finish(f, op, form.a[place]);
            }
        }

        private void choose(int f, int place) {
            boolean isSo = Ints.isAsSaid(forms[f].a[place], frames[f].pop());
            opens[f].goOnAs(forms[f].start(place, isSo ? 1 : 2));
        }

        private void goRound(int f, int place, boolean first) {
            int[] variables = frames[f].variables;
            int a = forms[f].a[place];
            int given = frames[f].pop();
            variables[a] = first ? given & TIMES_BITS : variables[a] - 1;
            if (variables[a] != 0) {
                opens[f].enterPart(forms[f].start(place, 1));
            } else {
                opens[f].leave();
                frames[f].push(0);
            }
        }

        private void finish(int f, int op, int a) {
            Frame frame = frames[f];
            switch (op) {
                case Form.INT:
                    frame.push(a);
                    break;
                case Form.VAR:
                    frame.push(frame.variables[a]);
                    break;
                case Form.NEG:
                    frame.push(-frame.pop());
                    break;
                case Form.SET:
                    frame.variables[a] = frame.top();
                    break;
                case Form.CALL:
                    frame.push(answerOfLower(f, a));
                    break;
                default:
                    int y = frame.pop();
                    frame.push(Ints.reckon(op, frame.pop(), y));
            }
        }

        private int answerOfLower(int f, int a) {
            Frame frame = frames[f];
            int z = frame.pop();
            int y = frame.pop();
            int x = frame.pop();
            return answer(a < f ? a : NONE, x, y, z);
        }
    }

    /** A row of units; 2 to 12 have the numbers of the tokens. */
    private static final class Code {
        static final int PUSH = 0, LOAD = 1, ADD = 2, SUB = 3, AND = 7, NEG = 12, STORE = 13, IF = 14, GO = 15;
        static final int CALL = 16, GIVE = 17, POP = 18, DUP = 19, SWAP = 20, NOTHING = 21;
        static final int[] TAKES = {0, 0, 2, 2, 2, 2, 2, 2, 2, 2, 2, 2, 1, 1, 1, 0, 3, 1, 1, 1, 2, 0};
        static final int[] LEAVES = {1, 1, 1, 1, 1, 1, 1, 1, 1, 1, 1, 1, 1, 0, 0, 0, 1, 0, 0, 2, 2, 0};

        final int[] op = new int[MOST_UNITS], first = new int[MOST_UNITS], second = new int[MOST_UNITS];
        int length;

        static boolean forgeable(int op) {
            return within(op, ADD, NEG) || within(op, GIVE, NOTHING);
        }

        void append(int newOp, int newFirst) {
            if (length < MOST_UNITS) {
                op[length] = newOp;
                first[length] = newFirst;
                second[length] = 0;
                length++;
            }
        }

        void becomes(Code other) {
            System.arraycopy(other.op, 0, op, 0, other.length);
            System.arraycopy(other.first, 0, first, 0, other.length);
            System.arraycopy(other.second, 0, second, 0, other.length);
            length = other.length;
        }
    }

    /** Makes the units of a form in an ENTRY, and reckons how many values are on the STACK at the most. */
    private static final class Compiler {
        private Form form;
        private Entry target;
        private Code code;
        private int height;

        void translate(Form from, Entry into) {
            form = from;
            target = into;
            code = into.code;
            height = 0;
            target.startWith(form.parameters);
            for (int v = form.parameters; v < VARIABLES; v++) {
                emit(Code.PUSH, 0);
                emit(Code.STORE, v);
            }
            emitForm(0);
            emit(Code.GIVE, 0);
        }

        private void emit(int op, int first) {
            code.append(op, first);
            height += Code.LEAVES[op] - Code.TAKES[op];
            target.stack = Math.max(target.stack, height);
        }

        private void emitOfTimes(int op) {
            int at = code.length;
            emit(op, 0);
            if (at < code.length) {
                target.ofTimes[at] = true;
            }
        }

        /* Every level stands further right in the form, so there are no more levels than tokens. */
        private void emitForm(int place) {
            if (place < 0 || place >= form.length) {
                return;
            }
            int op = form.op[place];
            int a = form.a[place];
            switch (op) {
                case Form.INT:
                    emit(Code.PUSH, a);
                    break;
                case Form.VAR:
                    emit(Code.LOAD, a);
                    break;
                case Form.IF:
                    emitIf(place);
                    break;
                case Form.LET:
                    emitForm(form.start(place, 0));
                    emit(Code.STORE, a);
                    emitForm(form.start(place, 1));
                    break;
                case Form.SET:
                    emitForm(form.start(place, 0));
                    emit(Code.DUP, 0);
                    emit(Code.STORE, a);
                    break;
                case Form.TIMES:
                    emitTimes(place);
                    break;
                default:
                    for (int part = 0; part < Form.PARTS[op]; part++) {
                        emitForm(form.start(place, part));
                    }
                    emit(op == Form.CALL ? Code.CALL : op, op == Form.CALL ? a : 0);
            }
        }

        private void emitIf(int place) {
            emitForm(form.start(place, 0));
            int test = code.length;
            emit(Code.IF, form.a[place]);
            int heightOfBranches = height;
            emitForm(form.start(place, 1));
            int leap = code.length;
            emit(Code.GO, 0);
            setSecond(test, code.length);
            height = heightOfBranches;
            emitForm(form.start(place, 2));
            setFirst(leap, code.length);
        }

        private void emitTimes(int place) {
            int a = form.a[place];
            emitForm(form.start(place, 0));
            emit(Code.PUSH, TIMES_BITS);
            emitOfTimes(Code.AND);
            emit(Code.STORE, a);
            int top = code.length;
            emit(Code.LOAD, a);
            int test = code.length;
            emit(Code.IF, 1);
            emitForm(form.start(place, 1));
            emitOfTimes(Code.POP);
            emit(Code.LOAD, a);
            emit(Code.PUSH, 1);
            emitOfTimes(Code.SUB);
            emit(Code.STORE, a);
            emit(Code.GO, top);
            setSecond(test, code.length);
            emit(Code.PUSH, 0);
        }

        private void setFirst(int at, int unit) {
            if (at < code.length) {
                code.first[at] = unit;
            }
        }

        private void setSecond(int at, int unit) {
            if (at < code.length) {
                code.second[at] = unit;
            }
        }
    }

    /** An ENTRY of the ARCHIVE; its SEAL is what the number, the octet and the UNITS were when it was made. */
    private static final class Entry {
        final Code code = new Code();
        /* Which units a TIMES put there itself: without them a loop might not end, so they cannot be forged. */
        final boolean[] ofTimes = new boolean[MOST_UNITS];
        int number, parameters, stack, namedFor;
        boolean octetChanged;
        private final int[] sealedOps = new int[MOST_UNITS];
        private int sealedNumber;
        private boolean sealedOctet;

        void startWith(int newParameters) {
            code.length = 0;
            parameters = newParameters;
            stack = 0;
            for (int i = 0; i < MOST_UNITS; i++) {
                ofTimes[i] = false;
            }
        }

        void finishFor(int f) {
            number = f;
            namedFor = f;
            octetChanged = false;
            makeSeal();
        }

        void makeSeal() {
            sealedNumber = number;
            sealedOctet = octetChanged;
            System.arraycopy(code.op, 0, sealedOps, 0, code.length);
        }

        /* Nothing but its number changes in a unit of an ENTRY, and how many there are does not. */
        boolean sealGoes() {
            boolean goes = sealedNumber == number && sealedOctet == octetChanged;
            for (int i = 0; i < code.length && goes; i++) {
                goes = sealedOps[i] == code.op[i];
            }
            return goes;
        }
    }

    /** THE ARCHIVE, and what is looked for in it before an image is made of it. */
    private static final class Archive {
        static final int NO_FAULT = 0, MAGIC = 1, SHORT = 2, MORE = 3, SEAL = 4, TWICE = 5;
        static final int FORM = 6, NAME = 7, CODE = 8;

        final Entry[] entries = new Entry[MOST_ENTRIES];
        int size, magic, stated, faultAt;
        private final CodeCheck codeCheck = new CodeCheck();

        Archive() {
            for (int e = 0; e < MOST_ENTRIES; e++) {
                entries[e] = new Entry();
            }
        }

        boolean has(int e) {
            return e >= 0 && e < size;
        }

        /* The first ENTRY with that number, or behind all of them. */
        int placeFor(int number) {
            for (int e = 0; e < size; e++) {
                if (entries[e].number == number) {
                    return e;
                }
            }
            return size;
        }

        void keepWith(int e) {
            size = Math.max(size, e + 1);
            stated = size;
        }

        int remove(int e) {
            Entry gone = entries[e];
            for (int k = e; k < size - 1; k++) {
                entries[k] = entries[k + 1];
            }
            size--;
            // The object is kept behind the others, for the next ENTRY to be made in it.
            entries[size] = gone;
            stated = size;
            return gone.number;
        }

        int findFault() {
            faultAt = NONE;
            if (magic != 0) {
                return MAGIC;
            }
            if (stated != size) {
                return stated > size ? SHORT : MORE;
            }
            int fault = findOddEntry();
            if (fault == NO_FAULT) {
                fault = findOddClass();
            }
            if (fault == NO_FAULT) {
                fault = findOddCode();
            }
            return fault;
        }

        private int findOddEntry() {
            for (int e = 0; e < size; e++) {
                faultAt = e;
                if (!entries[e].sealGoes()) {
                    return SEAL;
                }
                if (placeFor(entries[e].number) < e) {
                    return TWICE;
                }
            }
            return NO_FAULT;
        }

        private int findOddClass() {
            for (int e = 0; e < size; e++) {
                faultAt = e;
                if (entries[e].octetChanged) {
                    return FORM;
                }
                if (entries[e].namedFor != entries[e].number) {
                    return NAME;
                }
            }
            return NO_FAULT;
        }

        private int findOddCode() {
            for (int e = 0; e < size; e++) {
                faultAt = e;
                if (!codeCheck.goes(entries[e].code, entries[e].stack)) {
                    return CODE;
                }
            }
            return NO_FAULT;
        }
    }

    /** Goes along all ways through a row of units, with how many values are on the STACK at each. */
    private static final class CodeCheck {
        private final int[] heights = new int[MOST_UNITS], reached = new int[MOST_UNITS];
        private int reachedSize;
        private Code code;

        boolean goes(Code asked, int stack) {
            code = asked;
            reachedSize = 0;
            for (int i = 0; i < code.length; i++) {
                heights[i] = NONE;
            }
            boolean fine = reach(0, 0);
            // A unit is put among the reached ones once, so there are no more than units.
            for (int k = 0; k < reachedSize && k < MOST_UNITS && fine; k++) {
                fine = passes(reached[k], stack);
            }
            return fine;
        }

        private boolean passes(int at, int stack) {
            int op = code.op[at];
            int left = heights[at] - Code.TAKES[op];
            if (left < 0 || left + Code.LEAVES[op] > stack) {
                return false;
            }
            int height = left + Code.LEAVES[op];
            switch (op) {
                case Code.GIVE:
                    return true;
                case Code.GO:
                    return reach(code.first[at], height);
                case Code.IF:
                    return reach(at + 1, height) && reach(code.second[at], height);
                default:
                    return reach(at + 1, height);
            }
        }

        private boolean reach(int at, int height) {
            if (at < 0 || at >= code.length) {
                return false;
            }
            if (heights[at] == NONE) {
                heights[at] = height;
                reached[reachedSize] = at;
                reachedSize++;
            }
            return heights[at] == height;
        }
    }

    /** The IMAGE: units that an ARCHIVE had when it was loaded, and what runs them. */
    private static final class Image {
        private final Code[] codes = new Code[FUNCTIONS];
        private final Frame[] frames = new Frame[FUNCTIONS];

        Image() {
            for (int f = 0; f < FUNCTIONS; f++) {
                codes[f] = new Code();
                frames[f] = new Frame();
            }
        }

        boolean has(int f) {
            return within(f, 0, FUNCTIONS - 1) && codes[f].length > 0;
        }

        int size() {
            int present = 0;
            for (int f = 0; f < FUNCTIONS; f++) {
                if (has(f)) {
                    present++;
                }
            }
            return present;
        }

        void remake(Archive archive) {
            for (int f = 0; f < FUNCTIONS; f++) {
                codes[f].length = 0;
            }
            for (int e = 0; e < archive.size; e++) {
                codes[archive.entries[e].number].becomes(archive.entries[e].code);
            }
        }

        private int answer(int f, int x, int y, int z) {
            Code code = codes[f];
            // The code itself sets what is no PARAMETER to 0.
            frames[f].begin(MOST_PARAMETERS, x, y, z);
            int at = 0;
            for (int step = 0; step < MOST_STEPS && at < code.length && code.op[at] != Code.GIVE; step++) {
                at = perform(f, at);
            }
            return frames[f].pop();
        }

        /* What it answers is the unit with which it goes on. */
        private int perform(int f, int at) {
            Frame frame = frames[f];
            int first = codes[f].first[at];
            switch (codes[f].op[at]) {
                case Code.PUSH:
                    frame.push(first);
                    break;
                case Code.LOAD:
                    frame.push(frame.variables[first]);
                    break;
                case Code.STORE:
                    frame.variables[first] = frame.pop();
                    break;
                case Code.IF:
                    return Ints.isAsSaid(first, frame.pop()) ? at + 1 : codes[f].second[at];
                case Code.GO:
                    return first;
                case Code.CALL:
                    frame.push(answerOfLower(f, first));
                    break;
                default:
                    rework(codes[f].op[at], frame);
            }
            return at + 1;
        }

        private static void rework(int op, Frame frame) {
            if (op == Code.NOTHING) {
                return;
            }
            int upper = frame.pop();
            switch (op) {
                case Code.NEG:
                    frame.push(-upper);
                    break;
                case Code.POP:
                    break;
                case Code.DUP:
                    frame.push(upper);
                    frame.push(upper);
                    break;
                case Code.SWAP:
                    int lower = frame.pop();
                    frame.push(upper);
                    frame.push(lower);
                    break;
                default:
                    frame.push(Ints.reckon(op, frame.pop(), upper));
            }
        }

        private int answerOfLower(int f, int a) {
            Frame frame = frames[f];
            int z = frame.pop();
            int y = frame.pop();
            int x = frame.pop();
            if (a >= f || !has(a)) {
                throw new IllegalStateException("the IMAGE does not have what a CALL leads to");
            }
            return answer(a, x, y, z);
        }
    }
}
