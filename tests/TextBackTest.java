import java.util.ArrayList;
import java.util.List;

/**
 * THE TEXT of random RESIDUES is read back: it alone tells what residue(), variant() and kinds() must
 * count, how REGISTERS are numbered and what a RUN of the RESIDUE does. Nothing here knows how a
 * RESIDUE is made, so that slips in making one that the naive telling shares are found, too.
 */
final class TextBackTest {
    private static final int VARIANT_LETTER = 0;
    private static final int VARIANT_REGISTERS = 1;
    private static final int VARIANT_STARS = 2;
    private static final int VARIANT_CODE = 3;
    private static final int VARIANT_PARENT = 4;
    private static final int VARIANT_CALLED = 5;
    private static final int VARIANT_NUMBERS = 6;

    record Reg(int n) { }

    static final class Ins {
        int kind;
        int reg = -1;
        int mark;
        final List<Object> operands = new ArrayList<>();
        final List<Block> blocks = new ArrayList<>();
    }

    static final class Block {
        final List<Ins> row = new ArrayList<>();
        Object end;
    }

    static final class Variant {
        char letter;
        int stars;
        int numbers;
        int next;
        String head;
        Block block;
        final int[] kinds = new int[13];
        final List<Integer> calls = new ArrayList<>();
    }

    private final OnlineParts x = new OnlineParts();
    private final List<Variant> variants = new ArrayList<>();
    private String told;
    private String t;
    private int i;

    private static int residues;
    private static int done;

    public static void main(String[] args) {
        int cases = args.length > 0 ? Integer.parseInt(args[0]) : 8000;
        long first = args.length > 1 ? Long.parseLong(args[1]) : 1000000;
        for (int k = 0; k < cases && Check.allDue(); k++) {
            new TextBackTest().oneCase(new RandomTexts(first + k), first + k);
        }
        System.out.println("residues " + residues + ", runs that were DONE " + done);
        Check.due("there were residues and runs", residues > 0 && done > 0 ? 1 : 0, 1);
        Check.close("TextBackTest");
    }

    private void oneCase(RandomTexts r, long seed) {
        String program = RandomTexts.cutTo800(r.programText());
        if (Check.program(x, program) < 0) {
            return;
        }
        for (int k = 0; k < 3; k++) {
            String task = r.taskText();
            int leaves = Check.task(x, task);
            x.set(0, r.below(13));
            x.set(1, 1 + r.below(6));
            x.set(2, r.chance(50) ? 300 : 10 + r.below(100));
            told = "seed " + seed + " " + program + " " + task;
            if (leaves < 0 || x.specialise() < 0) {
                continue;
            }
            residues++;
            readAll();
            weighCounts();
            weighParents();
            for (int n = 0; n < 3; n++) {
                String values = r.valuesText(leaves);
                if (Check.values(x, values) >= 0) {
                    weighRun(values);
                }
            }
        }
    }

    // ---------------------------------------------------------------- reading back

    private void readAll() {
        variants.clear();
        int n = x.residue(0);
        for (int k = 0; k < n; k++) {
            t = Check.text(x, k);
            i = 0;
            Variant v = new Variant();
            v.letter = take();
            eat('(');
            while (t.charAt(i) != ')') {
                part(v);
                if (t.charAt(i) == ',') {
                    i++;
                }
            }
            eat(')');
            v.head = t.substring(0, i);
            eat('=');
            v.next = v.stars;
            v.block = block(v);
            eat(';');
            due("the end of " + t, i, t.length());
            variants.add(v);
        }
    }

    private void due(String what, long got, long want) {
        Check.due(told + ": " + what, got, want);
    }

    private char take() {
        char c = i < t.length() ? t.charAt(i) : ' ';
        i++;
        return c;
    }

    private void eat(char c) {
        due("byte " + i + " of " + t, take(), c);
    }

    private boolean is(char c) {
        return i < t.length() && t.charAt(i) == c;
    }

    private void part(Variant v) {
        if (is('[')) {
            i++;
            part(v);
            eat(',');
            part(v);
            eat(']');
        } else if (is('*')) {
            i++;
            v.stars++;
        } else {
            v.numbers++;
            number();
        }
    }

    private int digits() {
        int from = i;
        if (is('-')) {
            i++;
        }
        while (i < t.length() && Character.isDigit(t.charAt(i))) {
            i++;
        }
        return Integer.parseInt(t.substring(from, i));
    }

    private Object number() {
        if (!is('f')) {
            return digits();
        }
        i++;
        return Float.intBitsToFloat(digits());
    }

    /** A REGISTER that is used must have been given ahead of that. */
    private Object symbol(Variant v) {
        if (!is('r')) {
            return number();
        }
        i++;
        int n = digits();
        due("r" + n + " is there", n < v.next ? 1 : 0, 1);
        return new Reg(n);
    }

    /** An INSTRUCTION begins with a REGISTER and = or with !; else it is the BLOCK's end. */
    private boolean beginsInstruction() {
        if (is('!')) {
            return true;
        }
        int k = i;
        if (k < t.length() && t.charAt(k) == 'r') {
            k++;
            while (k < t.length() && Character.isDigit(t.charAt(k))) {
                k++;
            }
            return k < t.length() && t.charAt(k) == '=';
        }
        return false;
    }

    private Block block(Variant v) {
        Block b = new Block();
        while (beginsInstruction()) {
            b.row.add(instruction(v));
            eat(';');
        }
        b.end = symbol(v);
        return b;
    }

    private Ins instruction(Variant v) {
        Ins ins = new Ins();
        if (is('!')) {
            i++;
            ins.kind = 7;
            ins.operands.add(symbol(v));
            v.kinds[7]++;
            return ins;
        }
        i++;
        ins.reg = digits();
        eat('=');
        body(ins, v);
        v.kinds[ins.kind]++;
        due("the number of a REGISTER in " + t, ins.reg, v.next);
        v.next++;
        return ins;
    }

    private void body(Ins ins, Variant v) {
        char c = take();
        switch (c) {
            case '(' -> {
                ins.operands.add(symbol(v));
                ins.mark = take();
                ins.operands.add(symbol(v));
                eat(')');
            }
            case '?' -> {
                ins.kind = 6;
                ins.operands.add(symbol(v));
                for (int k = 0; k < 2; k++) {
                    eat('{');
                    ins.blocks.add(block(v));
                    eat('}');
                }
            }
            case '&', '_' -> {
                ins.kind = c == '&' ? 8 : 9;
                ins.mark = take() - '0';
                if (c == '&') {
                    ins.operands.add(symbol(v));
                }
            }
            case '[' -> {
                ins.kind = 10;
                ins.operands.add(symbol(v));
                eat(',');
                ins.operands.add(symbol(v));
                eat(']');
            }
            case 'c' -> {
                ins.kind = 11;
                ins.mark = digits();
                v.calls.add(ins.mark);
                eat('(');
                while (!is(')') && i < t.length()) {
                    ins.operands.add(symbol(v));
                    if (is(',')) {
                        i++;
                    }
                }
                eat(')');
            }
            case '-' -> ins.kind = 12;
            default -> {
                ins.kind = " $^#@~".indexOf(c);
                due("sign " + c + " in " + t, ins.kind > 0 ? 1 : 0, 1);
                ins.operands.add(symbol(v));
            }
        }
    }

    // ---------------------------------------------------------------- counting

    private void weighCounts() {
        int[] all = new int[13];
        int[] called = new int[variants.size()];
        int code = 0;
        for (int k = 0; k < variants.size(); k++) {
            Variant v = variants.get(k);
            int own = 0;
            for (int kind = 0; kind < 13; kind++) {
                due("kinds(" + k + "," + kind + ")", x.kinds(k, kind), v.kinds[kind]);
                own += v.kinds[kind];
                all[kind] += v.kinds[kind];
            }
            code += own;
            due("letter of " + k, x.variant(k, VARIANT_LETTER), v.letter - 'a' + 1);
            due("REGISTERS of " + k, x.variant(k, VARIANT_REGISTERS), v.next);
            due("* of " + k, x.variant(k, VARIANT_STARS), v.stars);
            due("code of " + k, x.variant(k, VARIANT_CODE), own);
            due("numbers of " + k, x.variant(k, VARIANT_NUMBERS), v.numbers);
            for (int to : v.calls) {
                called[to]++;
            }
        }
        for (int k = 0; k < called.length; k++) {
            due("calls of " + k, x.variant(k, VARIANT_CALLED), called[k]);
        }
        int[] about = {variants.size(), code, x.residue(2), all[11], all[7], all[8] + all[9], all[10], all[6]};
        for (int what = 0; what < about.length; what++) {
            due("residue(" + what + ")", x.residue(what), about[what]);
        }
        due("at most 300 INSTRUCTIONS, 200 UNROLLED, 24 VARIANTS",
            code <= 300 && x.residue(2) <= 200 && variants.size() <= 24 ? 1 : 0, 1);
    }

    /** VARIANTS are unlike, and come in the order of the calls that are first of them. */
    private void weighParents() {
        List<String> heads = new ArrayList<>();
        List<Integer> firsts = new ArrayList<>();
        firsts.add(-1);
        int next = 1;
        for (int k = 0; k < variants.size(); k++) {
            Variant v = variants.get(k);
            due(v.head + " is unlike those ahead", heads.contains(v.head) ? 1 : 0, 0);
            heads.add(v.head);
            for (int to : v.calls) {
                due("a new VARIANT is the next one", to <= next ? 1 : 0, 1);
                if (to == next) {
                    firsts.add(k);
                    next++;
                }
            }
        }
        due("each VARIANT is called", next, variants.size());
        for (int k = 0; k < variants.size() && k < firsts.size(); k++) {
            due("variant(" + k + ",4)", x.variant(k, VARIANT_PARENT), firsts.get(k));
        }
    }

    // ---------------------------------------------------------------- running

    private void weighRun(String values) {
        Naive.Run run = new Naive.Run();
        List<Object> leaves = new Naive().values(values, variants.get(0).stars);
        try {
            run.value = call(0, leaves, run);
        } catch (Naive.End e) {
            run.end = e.how;
        }
        String was = told;
        told = was + " " + values;
        int[] about = {run.end, run.calls, run.written, run.end == 0 ? Naive.weight(run.value) : 0,
            run.end == 0 ? Naive.deep(run.value) : 0, run.most};
        for (int what = 0; what < about.length; what++) {
            due("run(1," + what + ")", x.run(1, what), about[what]);
        }
        if (run.end == 0) {
            Check.due(told + " value()", Check.value(x), Naive.show(run.value));
        }
        for (int k = 0; k < run.out.size(); k++) {
            due("output(" + k + ",0)", x.output(k, 0), run.out.get(k) instanceof Float ? 1 : 0);
            due("output(" + k + ",1)", x.output(k, 1), Naive.bits(run.out.get(k)));
        }
        due("output behind all", x.output(run.out.size(), 1), -1);
        for (int d = 0; d < 8; d++) {
            due("place(" + d + ")", x.place(d), Naive.bits(run.places[d]));
        }
        weighSource();
        told = was;
    }

    /** What THE TASK does in full, the RESIDUE does, too, and with no more calls. */
    private void weighSource() {
        if (x.run(0, 0) == 0) {
            done++;
            due("agree()", x.agree(), 1);
            due("saved() is none below 0", x.saved() >= 0 ? 1 : 0, 1);
            due("saved()", x.saved(), x.run(0, 1) - x.run(1, 1));
        }
    }

    private Object call(int k, List<Object> at, Naive.Run run) {
        Variant v = variants.get(k);
        run.begin();
        Object[] regs = new Object[v.next];
        due("what stands at the * of " + k, at.size(), v.stars);
        for (int n = 0; n < at.size(); n++) {
            regs[n] = at.get(n);
        }
        Object got = run(v.block, regs, run);
        run.depth--;
        return got;
    }

    private static Object of(Object symbol, Object[] regs) {
        return symbol instanceof Reg r ? regs[r.n] : symbol;
    }

    private Object run(Block b, Object[] regs, Naive.Run run) {
        for (Ins ins : b.row) {
            List<Object> o = new ArrayList<>();
            for (Object s : ins.operands) {
                o.add(of(s, regs));
            }
            Object got = step(ins, o, regs, run);
            if (ins.reg >= 0) {
                regs[ins.reg] = got;
            }
        }
        return of(b.end, regs);
    }

    private Object step(Ins ins, List<Object> o, Object[] regs, Naive.Run run) {
        Object a = o.isEmpty() ? 0 : o.get(0);
        switch (ins.kind) {
            case 0:
                return Naive.apply(ins.mark, Naive.num(a), Naive.num(o.get(1)));
            case 1:
            case 2:
            case 3:
                return Naive.turn(" $^#".charAt(ins.kind), Naive.num(a));
            case 4:
                return a instanceof Naive.P p ? p.a() : a;
            case 5:
                return a instanceof Naive.P p ? p.b() : 0;
            case 6:
                return run(ins.blocks.get(Naive.truth(Naive.num(a)) ? 0 : 1), regs, run);
            case 7:
                run.write(Naive.num(a));
                return a;
            case 8:
                return run.put(ins.mark, Naive.num(a));
            case 9:
                return run.places[ins.mark];
            case 10:
                return run.pair(a, o.get(1));
            case 11:
                return call(ins.mark, o, run);
            default:
                throw new Naive.End(4);
        }
    }
}
