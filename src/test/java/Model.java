import java.util.ArrayList;
import java.util.HashMap;
import java.util.List;
import java.util.Map;
import java.util.NoSuchElementException;

/** The document a second time, written for plainness: trees, lists and recursion. ModelTest sets it beside FaslDesk. */
final class Model {
    private static final class Node {
        int op, a;
        final List<Node> parts = new ArrayList<>();
    }

    private static final class Function {
        int parameters;
        Node form;
    }

    private static final class Step {
        int op, a, b;
        boolean ofTimes;

        Step(int op, int a) {
            this.op = op;
            this.a = a;
        }
    }

    private static final class Entry {
        int number, parameters, stack, name;
        boolean octet;
        List<Step> steps;
        String seal;

        String sealNow() {
            StringBuilder text = new StringBuilder().append(number).append(octet);
            for (Step step : steps) {
                text.append(' ').append(step.op);
            }
            return text.toString();
        }
    }

    private final Function[] functions = new Function[8];
    private final List<int[]> draft = new ArrayList<>();
    private final List<Entry> entries = new ArrayList<>();
    private Map<Integer, List<Step>> image = new HashMap<>();
    private int magic, stated, made, faults, latest = -1;

    int token(int op, int a) {
        if (op < 0 || op > 17) {
            return -1;
        }
        int[] least = {0, 0, 0, 0, 0, 0, 0, 0, 0, 0, 0, 0, 0, 0, 3, 0, 3, 0};
        int[] most = {-1, 6, -1, -1, -1, -1, -1, -1, -1, -1, -1, -1, -1, 5, 6, 6, 6, 7};
        if (most[op] >= 0 && (a < least[op] || a > most[op])) {
            return -1;
        }
        if (draft.size() == 40) {
            return -2;
        }
        draft.add(new int[] {op, a});
        return draft.size();
    }

    int clear() {
        int had = draft.size();
        draft.clear();
        return had;
    }

    int define(int f, int n) {
        if (f < 0 || f > 7 || n < 0 || n > 3) {
            return -1;
        }
        int[] at = {0};
        Node form = parse(at);
        if (form == null || at[0] != draft.size() || countOf(form, 17) > 2 || !fits(form, f, n, new ArrayList<>())) {
            return -1;
        }
        functions[f] = new Function();
        functions[f].parameters = n;
        functions[f].form = form;
        return clear();
    }

    private Node parse(int[] at) {
        if (at[0] >= draft.size()) {
            return null;
        }
        Node node = new Node();
        node.op = draft.get(at[0])[0];
        node.a = draft.get(at[0])[1];
        at[0]++;
        int parts = node.op < 2 ? 0 : node.op == 12 || node.op == 15 ? 1 : node.op == 13 || node.op == 17 ? 3 : 2;
        for (int k = 0; k < parts; k++) {
            Node part = parse(at);
            if (part == null) {
                return null;
            }
            node.parts.add(part);
        }
        return node;
    }

    private static int countOf(Node node, int op) {
        int found = node.op == op ? 1 : 0;
        for (Node part : node.parts) {
            found += countOf(part, op);
        }
        return found;
    }

    /** The path tells what the node stands within: "L3" and "T3" the Y of LET 3 and TIMES 3, "X" the X of a TIMES. */
    private static boolean fits(Node node, int f, int n, List<String> path) {
        int times = 0;
        for (String step : path) {
            times += step.startsWith("T") || step.equals("X") ? 1 : 0;
        }
        boolean looped = path.contains("T" + node.a);
        boolean known = node.a < n || looped || path.contains("L" + node.a);
        if ((node.op == 1 || node.op == 15) && !known || node.op >= 14 && node.op <= 16 && looped
                || node.op == 16 && times == 2 || node.op == 17 && (times > 0 || node.a >= f)) {
            return false;
        }
        for (int k = 0; k < node.parts.size(); k++) {
            List<String> within = new ArrayList<>(path);
            if (node.op == 14 && k == 1) {
                within.add("L" + node.a);
            }
            if (node.op == 16) {
                within.add(k == 1 ? "T" + node.a : "X");
            }
            if (!fits(node.parts.get(k), f, n, within)) {
                return false;
            }
        }
        return true;
    }

    int interpret(int f, int x, int y, int z) {
        if (f < 0 || f > 7 || functions[f] == null) {
            throw new NoSuchElementException();
        }
        int[] given = {x, y, z};
        int[] variables = new int[7];
        System.arraycopy(given, 0, variables, 0, functions[f].parameters);
        return value(functions[f].form, variables);
    }

    private int value(Node node, int[] variables) {
        switch (node.op) {
            case 0:
                return node.a;
            case 1:
                return variables[node.a];
            case 12:
                return -value(node.parts.get(0), variables);
            case 13:
                return value(node.parts.get(is(node.a, value(node.parts.get(0), variables)) ? 1 : 2), variables);
            case 14:
                variables[node.a] = value(node.parts.get(0), variables);
                return value(node.parts.get(1), variables);
            case 15:
                return variables[node.a] = value(node.parts.get(0), variables);
            case 16:
                variables[node.a] = value(node.parts.get(0), variables) & 7;
                while (variables[node.a] != 0) {
                    value(node.parts.get(1), variables);
                    variables[node.a]--;
                }
                return 0;
            case 17:
                int x = value(node.parts.get(0), variables);
                int y = value(node.parts.get(1), variables);
                return interpret(node.a, x, y, value(node.parts.get(2), variables));
            default:
                int left = value(node.parts.get(0), variables);
                return reckon(node.op, left, value(node.parts.get(1), variables));
        }
    }

    private static boolean is(int test, int x) {
        boolean base = test / 2 == 0 ? x == 0 : test / 2 == 1 ? x < 0 : x > 0;
        return base == (test % 2 == 0);
    }

    private static int reckon(int op, long x, long y) {
        int shift = (int) Math.floorMod(y, 32L);
        if ((op == 5 || op == 6) && y == 0) {
            throw new ArithmeticException();
        }
        long[] all = {x + y, x - y, x * y, y == 0 ? 0 : x / y, y == 0 ? 0 : x % y, x & y, x | y, x ^ y, x << shift,
            x >> shift};
        return (int) all[op - 2];
    }

    int compile(int f) {
        if (f < 0 || f > 7 || functions[f] == null) {
            return -1;
        }
        int e = 0;
        while (e < entries.size() && entries.get(e).number != f) {
            e++;
        }
        if (e == 8) {
            return -2;
        }
        Entry entry = new Entry();
        entry.number = f;
        entry.name = f;
        entry.parameters = functions[f].parameters;
        entry.steps = new ArrayList<>();
        for (int v = entry.parameters; v < 7; v++) {
            entry.steps.add(new Step(0, 0));
            entry.steps.add(new Step(13, v));
        }
        emit(functions[f].form, entry.steps);
        entry.steps.add(new Step(17, 0));
        entry.stack = 0;
        while (!goes(entry.steps, entry.stack)) {
            entry.stack++;
        }
        entry.seal = entry.sealNow();
        if (e == entries.size()) {
            entries.add(entry);
        } else {
            entries.set(e, entry);
        }
        stated = entries.size();
        return e;
    }

    private static Step put(List<Step> steps, int op, int a, boolean ofTimes) {
        Step step = new Step(op, a);
        step.ofTimes = ofTimes;
        steps.add(step);
        return step;
    }

    private static void emit(Node node, List<Step> steps) {
        if (node.op < 2) {
            put(steps, node.op, node.a, false);
            return;
        }
        emit(node.parts.get(0), steps);
        if (node.op == 13) {
            Step test = put(steps, 14, node.a, false);
            emit(node.parts.get(1), steps);
            Step go = put(steps, 15, 0, false);
            test.b = steps.size();
            emit(node.parts.get(2), steps);
            go.a = steps.size();
        } else if (node.op == 14) {
            put(steps, 13, node.a, false);
            emit(node.parts.get(1), steps);
        } else if (node.op == 15) {
            put(steps, 19, 0, false);
            put(steps, 13, node.a, false);
        } else if (node.op == 16) {
            put(steps, 0, 7, false);
            put(steps, 7, 0, true);
            put(steps, 13, node.a, false);
            int top = steps.size();
            put(steps, 1, node.a, false);
            Step test = put(steps, 14, 1, false);
            emit(node.parts.get(1), steps);
            put(steps, 18, 0, true);
            put(steps, 1, node.a, false);
            put(steps, 0, 1, false);
            put(steps, 3, 0, true);
            put(steps, 13, node.a, false);
            put(steps, 15, top, false);
            test.b = steps.size();
            put(steps, 0, 0, false);
        } else {
            for (int k = 1; k < node.parts.size(); k++) {
                emit(node.parts.get(k), steps);
            }
            put(steps, node.op == 17 ? 16 : node.op, node.op == 17 ? node.a : 0, false);
        }
    }

    private static boolean goes(List<Step> steps, int stack) {
        return goes(steps, stack, 0, 0, new HashMap<>());
    }

    private static boolean goes(List<Step> steps, int stack, int at, int height, Map<Integer, Integer> seen) {
        if (at >= steps.size()) {
            return false;
        }
        if (seen.containsKey(at)) {
            return seen.get(at) == height;
        }
        seen.put(at, height);
        Step step = steps.get(at);
        int takes;
        int leaves;
        if (step.op <= 1) {
            takes = 0;
            leaves = 1;
        } else if (step.op <= 11) {
            takes = 2;
            leaves = 1;
        } else if (step.op == 12) {
            takes = 1;
            leaves = 1;
        } else if (step.op == 16) {
            takes = 3;
            leaves = 1;
        } else if (step.op == 19) {
            takes = 1;
            leaves = 2;
        } else if (step.op == 20) {
            takes = 2;
            leaves = 2;
        } else {
            takes = step.op == 15 || step.op == 21 ? 0 : 1;
            leaves = 0;
        }
        int then = height - takes + leaves;
        if (height < takes || then > stack) {
            return false;
        }
        if (step.op == 17) {
            return true;
        }
        boolean onward = step.op == 15 || goes(steps, stack, at + 1, then, seen);
        int leap = step.op == 15 ? step.a : step.b;
        return onward && (step.op != 14 && step.op != 15 || goes(steps, stack, leap, then, seen));
    }

    private boolean has(int e) {
        return e >= 0 && e < entries.size();
    }

    int damage(int part, int e, int v) {
        if (part < 0 || part > 4 || part >= 2 && !has(e) || (part == 0 || part == 2) && (v < 0 || v > 7)
                || part == 1 && (v < 0 || v > 9)) {
            return -1;
        }
        if (part == 0) {
            magic = v;
        } else if (part == 1) {
            stated = v;
        } else if (part == 2) {
            entries.get(e).number = v;
        } else if (part == 3) {
            entries.get(e).octet ^= true;
        } else {
            entries.get(e).seal = entries.get(e).sealNow();
        }
        return 1;
    }

    int forge(int e, int i, int op) {
        String may = " 2 3 4 5 6 7 8 9 10 11 12 17 18 19 20 21 ";
        if (!has(e) || i < 0 || i >= entries.get(e).steps.size() || !may.contains(" " + op + " ")) {
            return -1;
        }
        Step step = entries.get(e).steps.get(i);
        int before = step.op;
        if (step.ofTimes || !may.contains(" " + before + " ")) {
            return -1;
        }
        step.op = op;
        return before;
    }

    int drop(int e) {
        if (!has(e)) {
            return -1;
        }
        int number = entries.remove(e).number;
        stated = entries.size();
        return number;
    }

    int load() {
        int[] found = fault();
        if (found[0] != 0) {
            faults++;
            latest = found[1];
            return found[0];
        }
        image = new HashMap<>();
        for (Entry entry : entries) {
            List<Step> copy = new ArrayList<>();
            for (Step step : entry.steps) {
                put(copy, step.op, step.a, false).b = step.b;
            }
            image.put(entry.number, copy);
        }
        made++;
        return 0;
    }

    private int[] fault() {
        if (magic != 0 || stated != entries.size()) {
            return new int[] {magic != 0 ? 1 : stated > entries.size() ? 2 : 3, -1};
        }
        List<Integer> numbers = new ArrayList<>();
        for (Entry entry : entries) {
            if (!entry.seal.equals(entry.sealNow())) {
                return new int[] {4, numbers.size()};
            }
            if (numbers.contains(entry.number)) {
                return new int[] {5, numbers.size()};
            }
            numbers.add(entry.number);
        }
        for (int e = 0; e < entries.size(); e++) {
            if (entries.get(e).octet || entries.get(e).name != entries.get(e).number) {
                return new int[] {entries.get(e).octet ? 6 : 7, e};
            }
        }
        for (int e = 0; e < entries.size(); e++) {
            if (!goes(entries.get(e).steps, entries.get(e).stack)) {
                return new int[] {8, e};
            }
        }
        return new int[] {0, -1};
    }

    int run(int f, int x, int y, int z) {
        if (!image.containsKey(f)) {
            throw new NoSuchElementException();
        }
        List<Step> steps = image.get(f);
        int[] variables = {x, y, z, 0, 0, 0, 0};
        List<Integer> stack = new ArrayList<>();
        int at = 0;
        while (true) {
            Step step = steps.get(at);
            at++;
            if (step.op == 17) {
                return pop(stack);
            } else if (step.op == 0) {
                stack.add(step.a);
            } else if (step.op == 1) {
                stack.add(variables[step.a]);
            } else if (step.op <= 11) {
                int right = pop(stack);
                stack.add(reckon(step.op, pop(stack), right));
            } else if (step.op == 12) {
                stack.add(-pop(stack));
            } else if (step.op == 13) {
                variables[step.a] = pop(stack);
            } else if (step.op == 14) {
                at = is(step.a, pop(stack)) ? at : step.b;
            } else if (step.op == 15) {
                at = step.a;
            } else if (step.op == 16) {
                int c = pop(stack);
                int b = pop(stack);
                int a = pop(stack);
                if (!image.containsKey(step.a)) {
                    throw new IllegalStateException();
                }
                stack.add(run(step.a, a, b, c));
            } else if (step.op == 18) {
                pop(stack);
            } else if (step.op == 19) {
                stack.add(stack.get(stack.size() - 1));
            } else if (step.op == 20) {
                stack.add(stack.remove(stack.size() - 2));
            }
        }
    }

    private static int pop(List<Integer> stack) {
        return stack.remove(stack.size() - 1);
    }

    int entry(int e, int what) {
        if (!has(e) || what < 0 || what > 5) {
            return -1;
        }
        Entry entry = entries.get(e);
        int seal = entry.seal.equals(entry.sealNow()) ? 1 : 0;
        return new int[] {entry.number, entry.parameters, entry.steps.size(), entry.stack, entry.name, seal}[what];
    }

    int unit(int e, int i, int what) {
        if (!has(e) || i < 0 || i >= entries.get(e).steps.size() || what < 0 || what > 2) {
            return -1;
        }
        Step step = entries.get(e).steps.get(i);
        return new int[] {step.op, step.a, step.b}[what];
    }

    int count(int what) {
        int forms = 0;
        for (Function function : functions) {
            forms += function == null ? 0 : 1;
        }
        int[] all = {forms, entries.size(), stated, image.size(), made, faults, latest, draft.size()};
        return what < 0 || what > 7 ? -1 : all[what];
    }
}
