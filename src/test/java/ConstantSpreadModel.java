import java.util.ArrayList;
import java.util.Arrays;
import java.util.List;
import java.util.Map;
import java.util.Random;
import java.util.TreeMap;

/**
 * Chance calls against a slow second writing of the document, and against what has to be so of
 * every program: the new one does what the one of before does, and what is known is true.
 */
public final class ConstantSpreadModel {
    private static final int RUNS = 3000;
    private static final long THROWS = Long.MIN_VALUE;
    private static int wrong = 0;

    private record Line(int op, int d, int x, int a, int b, int c) {
        int[] operands() {
            return new int[] {a, b, c};
        }

        Line calling(int function) {
            return new Line(op, d, function, a, b, c);
        }
    }

    private record Fun(int parameters, List<Line> lines) {
    }

    private static final class Stop extends RuntimeException {
        private static final long serialVersionUID = 1;
        final int code;

        Stop(int code) {
            this.code = code;
        }
    }

    private static boolean operand(int o) {
        return Math.floorMod(o, 8) != 6;
    }

    /** A place's registers; null in it is ANY. */
    private static Integer of(Integer[] registers, int o) {
        return Math.floorMod(o, 8) == 7 ? (Integer) Math.floorDiv(o, 8) : registers[Math.floorMod(o, 8)];
    }

    private static long math(int op, int a, int b) {
        switch (op) {
            case 0: return a;
            case 1: return (int) ((long) a + b);
            case 2: return (int) ((long) a - b);
            case 3: return (int) ((long) a * b);
            default: return a < b ? 1 : 0;
        }
    }

    private static final class Model {
        List<Fun> program = new ArrayList<>();
        List<Fun> special = new ArrayList<>();
        List<Fun> fresh = null;
        List<Integer> table = new ArrayList<>();
        List<Integer> inputs = new ArrayList<>();
        Map<Integer, Integer[]> known = new TreeMap<>();
        int done;
        int read;
        List<Integer> outputs = new ArrayList<>();
        List<List<int[]>> calls = new ArrayList<>();

        long function(int parameters) {
            if (parameters < 0 || parameters > 3 || program.isEmpty() && parameters > 0) {
                throw new IllegalArgumentException();
            }
            if (program.size() == 6) {
                throw new IllegalStateException();
            }
            fresh = null;
            program.add(new Fun(parameters, new ArrayList<>()));
            return program.size() - 1;
        }

        boolean refused(int op, Line l) {
            boolean a = op <= 4 || op == 6 || op == 7 || op >= 9 && op <= 11;
            boolean b = op >= 1 && op <= 4 || op == 10 || op == 11;
            boolean c = op == 10 || op == 11;
            return op > 12 || l.d < 0 || l.d > 5 || a && !operand(l.a) || b && !operand(l.b)
                    || c && !operand(l.c) || (op == 7 || op == 8) && (l.x < 0 || l.x > 16)
                    || op == 10 && (l.x < 0 || l.x >= program.size()) || op == 11 && !operand(l.x);
        }

        long code(int function, int word, int x, int a, int b, int c) {
            if (function < 0 || function >= program.size()) {
                throw new IndexOutOfBoundsException();
            }
            Line l = new Line(Math.floorMod(word, 16), Math.floorDiv(word, 16), x, a, b, c);
            if (refused(l.op, l)) {
                throw new IllegalArgumentException();
            }
            List<Line> lines = program.get(function).lines;
            if (lines.size() == 16) {
                throw new IllegalStateException();
            }
            fresh = null;
            lines.add(l);
            return lines.size() - 1;
        }

        long table(int function) {
            if (function < 0 || function >= program.size()) {
                throw new IndexOutOfBoundsException();
            }
            if (table.size() == 4) {
                throw new IllegalStateException();
            }
            fresh = null;
            table.add(function);
            return table.size();
        }

        long input(int v) {
            if (inputs.size() == 12) {
                return -1;
            }
            inputs.add(v);
            return inputs.size();
        }

        private static void side(Map<Integer, Integer[]> to, int place, Integer[] registers) {
            Integer[] old = to.get(place);
            Integer[] joined = registers.clone();
            for (int r = 0; old != null && r < 6; r++) {
                joined[r] = old[r] != null && old[r].equals(registers[r]) ? old[r] : null;
            }
            to.put(place, joined);
        }

        private void callee(Map<Integer, Integer[]> to, Integer[] now, Line l, int function) {
            Integer[] first = {0, 0, 0, 0, 0, 0};
            for (int p = 0; p < special.get(function).parameters; p++) {
                first[p] = of(now, l.operands()[p]);
            }
            side(to, function * 100, first);
        }

        private void leadOn(Map<Integer, Integer[]> to, int function, int i, Integer[] now) {
            List<Line> lines = special.get(function).lines;
            if (i == lines.size()) {
                return;
            }
            Line l = lines.get(i);
            int x = function * 100 + Math.min(l.x, lines.size());
            int next = function * 100 + i + 1;
            Integer[] then = now.clone();
            if (l.op <= 4) {
                Integer a = of(now, l.a);
                Integer b = l.op == 0 ? (Integer) 0 : of(now, l.b);
                then[l.d] = null;
                if (a != null && b != null) {
                    long result = math(l.op, a, b);
                    then[l.d] = result < -(1L << 28) || result >= 1L << 28 ? null : (Integer) (int) result;
                }
            }
            if (l.op == 5 || l.op == 10 || l.op == 11) {
                then[l.d] = l.op == 11 && table.isEmpty() ? (Integer) 0 : null;
            }
            if (l.op == 10) {
                callee(to, now, l, l.x);
            }
            if (l.op == 11 && !table.isEmpty()) {
                Integer e = of(now, l.x);
                for (int k = 0; k < table.size(); k++) {
                    if (e == null || Math.floorMod(e, table.size()) == k) {
                        callee(to, now, l, table.get(k));
                    }
                }
            }
            Integer a = l.op == 7 ? of(now, l.a) : null;
            if (l.op == 8 || l.op == 7 && (a == null || a != 0)) {
                side(to, x, then);
            }
            if (l.op != 8 && l.op != 9 && (l.op != 7 || a == null || a == 0)) {
                side(to, next, then);
            }
        }

        /** From nothing upwards, all places at once, till a round changes nothing. */
        private void know() {
            Map<Integer, Integer[]> now = new TreeMap<>();
            for (boolean changed = true; changed;) {
                Map<Integer, Integer[]> then = new TreeMap<>();
                side(then, 0, new Integer[] {0, 0, 0, 0, 0, 0});
                for (Map.Entry<Integer, Integer[]> e : now.entrySet()) {
                    leadOn(then, e.getKey() / 100, e.getKey() % 100, e.getValue());
                }
                changed = !then.keySet().equals(now.keySet());
                for (Integer place : then.keySet()) {
                    changed = changed || !Arrays.equals(then.get(place), now.get(place));
                }
                now = then;
            }
            known = now;
        }

        private List<Integer> said(int f, int i) {
            Line l = special.get(f).lines.get(i);
            List<Integer> all = new ArrayList<>();
            for (int p = 0; p < special.get(l.x).parameters; p++) {
                all.add(of(known.get(f * 100 + i), l.operands()[p]));
            }
            return all;
        }

        private boolean callComeTo(int f, int i) {
            return special.get(f).lines.get(i).op == 10 && known.containsKey(f * 100 + i);
        }

        private boolean copyOne() {
            for (int f = 0; f < special.size(); f++) {
                for (int i = 0; i < special.get(f).lines.size(); i++) {
                    if (!callComeTo(f, i)) {
                        continue;
                    }
                    int called = special.get(f).lines.get(i).x;
                    List<Integer> says = said(f, i);
                    for (int p = 0; p < says.size(); p++) {
                        if (known.get(called * 100)[p] == null && says.get(p) != null) {
                            copy(called, says);
                            return true;
                        }
                    }
                }
            }
            return false;
        }

        private void copy(int called, List<Integer> says) {
            int count = special.size();
            Fun original = special.get(called);
            special.add(new Fun(original.parameters, new ArrayList<>(original.lines)));
            List<int[]> going = new ArrayList<>();
            for (int f = 0; f < count; f++) {
                for (int i = 0; i < special.get(f).lines.size(); i++) {
                    if (callComeTo(f, i) && special.get(f).lines.get(i).x == called && said(f, i).equals(says)) {
                        going.add(new int[] {f, i});
                    }
                }
            }
            for (int[] g : going) {
                special.get(g[0]).lines.set(g[1], special.get(g[0]).lines.get(g[1]).calling(count));
            }
        }

        long analyse(int copies) {
            if (copies < 0 || copies > 6) {
                throw new IllegalArgumentException();
            }
            if (program.isEmpty()) {
                throw new IllegalStateException();
            }
            special = new ArrayList<>();
            for (Fun f : program) {
                special.add(new Fun(f.parameters, new ArrayList<>(f.lines)));
            }
            know();
            for (int made = 0; made < copies && copyOne(); made++) {
                know();
            }
            fresh = new ArrayList<>();
            int reached = 0;
            for (int f = 0; f < special.size(); f++) {
                List<Line> lines = new ArrayList<>();
                fresh.add(new Fun(special.get(f).parameters, lines));
                if (known.containsKey(f * 100)) {
                    reached++;
                    for (int i = 0; i < special.get(f).lines.size(); i++) {
                        lines.add(anew(special.get(f).lines.get(i), known.get(f * 100 + i)));
                    }
                }
            }
            return reached;
        }

        private static int put(Integer[] now, int o) {
            Integer number = of(now, o);
            return number == null ? o : number * 8 + 7;
        }

        private Line anew(Line l, Integer[] now) {
            if (now == null) {
                return new Line(12, l.d, l.x, l.a, l.b, l.c);
            }
            switch (l.op) {
                case 0: case 6: case 9:
                    return new Line(l.op, l.d, l.x, put(now, l.a), l.b, l.c);
                case 1: case 2: case 3: case 4:
                    return new Line(l.op, l.d, l.x, put(now, l.a), put(now, l.b), l.c);
                case 7:
                    Integer a = of(now, l.a);
                    return new Line(a == null ? 7 : a != 0 ? 8 : 12, l.d, l.x, put(now, l.a), l.b, l.c);
                case 10:
                    return new Line(10, l.d, l.x, put(now, l.a), put(now, l.b), put(now, l.c));
                case 11:
                    Integer e = of(now, l.x);
                    if (e != null && table.isEmpty()) {
                        return new Line(0, l.d, put(now, l.x), 7, put(now, l.b), put(now, l.c));
                    }
                    return new Line(e == null ? 11 : 10, l.d,
                            e == null ? l.x : table.get(Math.floorMod(e, table.size())),
                            put(now, l.a), put(now, l.b), put(now, l.c));
                default:
                    return l;
            }
        }

        long functions() {
            return fresh == null ? program.size() : fresh.size();
        }

        private Integer[] asked(int function, int place, int register) {
            if (fresh == null) {
                throw new IllegalStateException();
            }
            if (function < 0 || function >= fresh.size() || place < 0 || place > 16 || register < 0 || register > 5) {
                throw new IndexOutOfBoundsException();
            }
            return known.get(function * 100 + Math.min(place, special.get(function).lines.size()));
        }

        long kind(int function, int place, int register) {
            Integer[] now = asked(function, place, register);
            return now == null ? 0 : now[register] == null ? 2 : 1;
        }

        long number(int function, int place, int register) {
            Integer[] now = asked(function, place, register);
            return now == null || now[register] == null ? 0 : now[register];
        }

        long statement(int function, int i, int what) {
            if (fresh == null) {
                throw new IllegalStateException();
            }
            if (function < 0 || function >= fresh.size() || i < 0 || i >= fresh.get(function).lines.size()) {
                throw new IndexOutOfBoundsException();
            }
            if (what < 0 || what > 5) {
                throw new IllegalArgumentException();
            }
            Line l = fresh.get(function).lines.get(i);
            return new int[] {l.op, l.d, l.x, l.a, l.b, l.c}[what];
        }

        long run(boolean anew, int statements) {
            if (statements < 0 || statements > 3000) {
                throw new IllegalArgumentException();
            }
            if (program.isEmpty() || anew && fresh == null) {
                throw new IllegalStateException();
            }
            done = 0;
            read = 0;
            outputs.clear();
            calls.clear();
            for (int f = 0; f < 12; f++) {
                calls.add(new ArrayList<>());
            }
            try {
                call(anew ? fresh : program, 0, new int[3], 0, statements);
            } catch (Stop stop) {
                return stop.code;
            }
            return 1;
        }

        private static int value(int[] registers, int o) {
            return Math.floorMod(o, 8) < 6 ? registers[Math.floorMod(o, 8)] : Math.floorDiv(o, 8);
        }

        private int call(List<Fun> funs, int f, int[] arguments, int others, int statements) {
            if (others > 10) {
                throw new Stop(2);
            }
            int[] reg = new int[6];
            System.arraycopy(arguments, 0, reg, 0, funs.get(f).parameters);
            calls.get(f).add(Arrays.copyOf(reg, 3));
            List<Line> lines = funs.get(f).lines;
            for (int i = 0; i < lines.size();) {
                if (done == statements) {
                    throw new Stop(0);
                }
                Line l = lines.get(i);
                i++;
                int a = value(reg, l.a);
                int called = l.op == 10 ? l.x : -1;
                if (l.op == 11 && !table.isEmpty()) {
                    called = table.get(Math.floorMod(value(reg, l.x), table.size()));
                }
                if (l.op == 6 && outputs.size() == 40 || called >= 0 && others == 10) {
                    throw new Stop(2);
                }
                done++;
                if (called >= 0) {
                    int[] with = {a, value(reg, l.b), value(reg, l.c)};
                    reg[l.d] = call(funs, called, with, others + 1, statements);
                } else if (l.op <= 4) {
                    reg[l.d] = (int) math(l.op, a, value(reg, l.b));
                } else if (l.op == 5) {
                    reg[l.d] = read < inputs.size() ? inputs.get(read++) : 0;
                } else if (l.op == 6) {
                    outputs.add(a);
                } else if (l.op == 8 || l.op == 7 && a != 0) {
                    i = l.x;
                } else if (l.op == 9) {
                    return a;
                } else if (l.op == 11) {
                    reg[l.d] = 0;
                }
            }
            return 0;
        }

        long output(int i) {
            if (i < 0 || i >= outputs.size()) {
                throw new IndexOutOfBoundsException();
            }
            return outputs.get(i);
        }

        private List<int[]> callsOf(int function, int parameter) {
            if (function < 0 || function > 11 || parameter < 0 || parameter > 2) {
                throw new IndexOutOfBoundsException();
            }
            return calls.isEmpty() ? new ArrayList<>() : calls.get(function);
        }

        long same(int function, int parameter) {
            List<int[]> all = callsOf(function, parameter);
            boolean same = !all.isEmpty();
            for (int[] c : all) {
                same = same && c[parameter] == all.get(0)[parameter];
            }
            return same ? 1 : 0;
        }

        long latest(int function, int parameter) {
            List<int[]> all = callsOf(function, parameter);
            return all.isEmpty() ? 0 : all.get(all.size() - 1)[parameter];
        }
    }

    private interface Ask {
        long go();
    }

    private static long answer(Ask ask) {
        try {
            return ask.go();
        } catch (IllegalArgumentException e) {
            return e.getClass() == IllegalArgumentException.class ? THROWS + 1 : THROWS;
        } catch (IllegalStateException e) {
            return e.getClass() == IllegalStateException.class ? THROWS + 2 : THROWS;
        } catch (IndexOutOfBoundsException e) {
            return e.getClass() == IndexOutOfBoundsException.class ? THROWS + 3 : THROWS;
        } catch (RuntimeException e) {
            return THROWS;
        }
    }

    private static final class Pair {
        final ConstantSpread s = new ConstantSpread();
        final Model m = new Model();
        final StringBuilder history = new StringBuilder();
        int count = 0;

        long both(String call, Ask ofS, Ask ofM) {
            long got = answer(ofS);
            long want = answer(ofM);
            count++;
            history.append(call).append(" = ").append(want).append('\n');
            if (got != want || got == THROWS) {
                wrong++;
                if (wrong < 5) {
                    System.out.println(history + "answered " + got);
                }
            }
            return want;
        }

        void function(int p) {
            both("function(" + p + ")", () -> s.function(p), () -> m.function(p));
        }

        void code(int f, int w, int x, int a, int b, int c) {
            both("code(" + f + ", " + w + ", " + x + ", " + a + ", " + b + ", " + c + ")",
                    () -> s.code(f, w, x, a, b, c), () -> m.code(f, w, x, a, b, c));
        }

        void table(int f) {
            both("table(" + f + ")", () -> s.table(f), () -> m.table(f));
        }

        void input(int v) {
            both("input(" + v + ")", () -> s.input(v), () -> m.input(v));
        }

        void empty() {
            both("empty()", () -> {
                s.empty();
                return 0;
            }, () -> {
                m.inputs.clear();
                return 0;
            });
        }

        void analyse(int copies) {
            both("analyse(" + copies + ")", () -> s.analyse(copies), () -> m.analyse(copies));
        }

        void ask(int f, int place, int r) {
            both("kind(" + f + ", " + place + ", " + r + ")", () -> s.kind(f, place, r), () -> m.kind(f, place, r));
            both("number(" + f + ", " + place + ", " + r + ")", () -> s.number(f, place, r), () -> m.number(f, place, r));
        }

        void statement(int f, int i, int what) {
            both("statement(" + f + ", " + i + ", " + what + ")",
                    () -> s.statement(f, i, what), () -> m.statement(f, i, what));
        }

        void run(boolean anew, int n) {
            both("run(" + anew + ", " + n + ")", () -> s.run(anew, n), () -> m.run(anew, n));
        }

        void counts() {
            both("functions()", () -> s.functions(), () -> m.functions());
            both("done()", () -> s.done(), () -> m.done);
            both("outputs()", () -> s.outputs(), () -> m.outputs.size());
        }

        void ofCalls(int f, int p) {
            both("calls(" + f + ")", () -> s.calls(f), () -> m.callsOf(f, 0).size());
            both("same(" + f + ", " + p + ")", () -> s.same(f, p) ? 1 : 0, () -> m.same(f, p));
            both("latest(" + f + ", " + p + ")", () -> s.latest(f, p), () -> m.latest(f, p));
        }

        void output(int i) {
            both("output(" + i + ")", () -> s.output(i), () -> m.output(i));
        }
    }

    private static final int[] NUMBERS = {0, 0, 1, 1, 2, 3, 5, -1, -2, (1 << 28) - 1, -(1 << 28), 1 << 27, 1 << 14};

    private static int operand(Random r) {
        int k = r.nextInt(40);
        if (k == 0) {
            return r.nextInt();
        }
        return k < 24 ? r.nextInt(4) + (k == 1 ? 8 : 0) + (k == 2 ? 2 : 0)
                : NUMBERS[r.nextInt(NUMBERS.length)] * 8 + 7;
    }

    private static final int[] OPERATIONS = {0, 1, 1, 2, 2, 3, 4, 5, 6, 6, 7, 7, 7, 8, 9, 10, 10, 10, 10, 11, 11, 12};

    private static void chanceCode(Pair p, Random r) {
        int op = r.nextInt(60) == 0 ? r.nextInt(16) : OPERATIONS[r.nextInt(OPERATIONS.length)];
        int d = r.nextInt(80) == 0 ? r.nextInt(9) - 1 : r.nextInt(4);
        int functions = p.m.program.size();
        int x = op == 11 ? operand(r) : op == 10 ? r.nextInt(functions + (r.nextInt(20) == 0 ? 2 : 0) + 1) - r.nextInt(12) / 11
                : r.nextInt(40) == 0 ? r.nextInt(24) - 4 : r.nextInt(9);
        int f = r.nextInt(40) == 0 ? r.nextInt(9) - 1 : r.nextInt(functions + 1);
        p.code(f, d * 16 + op, x, operand(r), operand(r), operand(r));
    }

    private static void chanceCall(Pair p, Random r) {
        switch (r.nextInt(12)) {
            case 0: p.function(r.nextInt(5) - (r.nextInt(9) == 0 ? 1 : 0)); break;
            case 1: p.table(r.nextInt(p.m.program.size() + 2) - 1); break;
            case 2: p.input(r.nextInt(4)); break;
            case 3: if (r.nextInt(4) == 0) { p.empty(); } break;
            case 4: case 5: p.analyse(r.nextInt(9) - 1); break;
            case 6: p.run(r.nextBoolean(), r.nextInt(20) == 0 ? r.nextInt(4000) - 500 : r.nextInt(60)); break;
            case 7: p.ask(r.nextInt(14) - 1, r.nextInt(19) - 1, r.nextInt(8) - 1); break;
            case 8: p.statement(r.nextInt(14) - 1, r.nextInt(18) - 1, r.nextInt(8) - 1); break;
            case 9: p.ofCalls(r.nextInt(14) - 1, r.nextInt(5) - 1); break;
            case 10: p.output(r.nextInt(44) - 2); break;
            default: p.counts(); break;
        }
    }

    private static void lookAtAll(Pair p, Random r) {
        p.counts();
        int functions = (int) p.m.functions();
        for (int f = 0; f < functions && p.count < 200; f++) {
            int length = p.m.special.get(f).lines.size();
            for (int k = 0; k < 4; k++) {
                p.ask(f, k == 0 ? 0 : r.nextInt(length + 1), r.nextInt(6));
            }
            for (int k = 0; k < 12 && length > 0; k++) {
                p.statement(f, r.nextInt(length), r.nextInt(6));
            }
        }
    }

    private static void runBoth(Pair p, Random r) {
        int n = r.nextInt(3) == 0 ? r.nextInt(40) : 3000;
        for (int k = 0; k < 2; k++) {
            p.run(k == 1, n);
            p.counts();
            p.ofCalls(r.nextInt((int) p.m.functions()), r.nextInt(3));
            for (int i = 0; i < 4; i++) {
                p.output(r.nextInt(p.m.outputs.size() + 1));
            }
        }
    }

    private static void chanceRun(int seed) {
        Random r = new Random(seed);
        Pair p = new Pair();
        int functions = 1 + r.nextInt(6);
        for (int f = 0; f < functions; f++) {
            p.function(f == 0 ? 0 : r.nextInt(4));
        }
        for (int t = r.nextInt(5); t > 0; t--) {
            p.table(r.nextInt(functions));
        }
        for (int t = r.nextInt(6); t > 0; t--) {
            p.input(r.nextInt(5) - 1);
        }
        int lines = r.nextInt(8 * functions + 4);
        for (int k = 0; k < lines; k++) {
            chanceCode(p, r);
        }
        p.analyse(r.nextInt(7));
        lookAtAll(p, r);
        runBoth(p, r);
        for (int k = 0; k < 90 && p.count < 300; k++) {
            if (r.nextInt(10) == 0) {
                chanceCode(p, r);
            } else {
                chanceCall(p, r);
            }
        }
        p.analyse(r.nextInt(7));
        // Last, since the model does not run along there.
        alike(p.s, p.m.program.size());
    }

    private static void holds(String what, boolean is) {
        if (!is) {
            wrong++;
            System.out.println("it is not so: " + what);
        }
    }

    /** What has to be so by the document, whatever the model says; s has been analysed. */
    private static void alike(ConstantSpread s, int originals) {
        for (int n : new int[] {3000, 17}) {
            int ended = s.run(false, n);
            int done = s.done();
            int[] outputs = new int[s.outputs()];
            for (int i = 0; i < outputs.length; i++) {
                outputs[i] = s.output(i);
            }
            int called = 0;
            for (int f = 0; f < originals; f++) {
                called += s.calls(f);
            }
            holds("both end alike", s.run(true, n) == ended && s.done() == done);
            holds("both output alike", s.outputs() == outputs.length);
            for (int i = 0; i < outputs.length && i < s.outputs(); i++) {
                holds("both output alike", s.output(i) == outputs[i]);
            }
            for (int f = 0; f < s.functions(); f++) {
                called -= s.calls(f);
                for (int p = 0; p < 3 && s.calls(f) > 0; p++) {
                    int kind = s.kind(f, 0, p);
                    holds("what is called is reached", kind != 0);
                    // A first place also has what comes from jumps, so a number there says it of all calls.
                    holds("what is known of parameters is true",
                            kind == 2 || s.latest(f, p) == s.number(f, 0, p) && s.same(f, p));
                }
            }
            holds("both call as often", called == 0);
        }
    }

    public static void main(String[] args) {
        for (int seed = 0; seed < RUNS; seed++) {
            chanceRun(seed);
        }
        System.out.println(wrong == 0 ? "all answers are as due" : wrong + " answers are not as due");
        if (wrong != 0) {
            System.exit(1);
        }
    }
}
