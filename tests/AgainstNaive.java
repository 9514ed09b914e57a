import java.util.ArrayList;
import java.util.List;
import java.util.Random;

/** Random programs, tasks, values and broken texts: the class and the naive one answer alike. */
final class AgainstNaive {
    private final Random r;
    private final List<int[]> heads = new ArrayList<>();
    private int left;

    AgainstNaive(long seed) {
        r = new Random(seed);
    }

    private static final int[] ENDS = new int[5];
    private static final int[] BREAKS = new int[8];
    private static int agreed;
    private static int disagreed;

    public static void main(String[] args) {
        int cases = args.length > 0 ? Integer.parseInt(args[0]) : 20000;
        long first = args.length > 1 ? Long.parseLong(args[1]) : 1;
        for (int k = 0; k < cases && Check.allDue(); k++) {
            new AgainstNaive(first + k).oneCase(first + k);
        }
        StringBuilder seen = new StringBuilder("runs by their ends:");
        for (int n : ENDS) {
            seen.append(' ').append(n);
        }
        seen.append(", specialised ").append(BREAKS[0]).append(", broken off:");
        for (int k = 2; k <= 6; k++) {
            seen.append(' ').append(BREAKS[k]);
        }
        System.out.println(seen + ", agreed " + agreed + ", not " + disagreed);
        Check.close("AgainstNaive");
    }

    // ---------------------------------------------------------------- making texts

    private boolean chance(int percent) {
        return r.nextInt(100) < percent;
    }

    private char pick(String of) {
        return of.charAt(r.nextInt(of.length()));
    }

    private String number() {
        String sign = chance(20) ? "-" : "";
        int size = r.nextInt(10);
        String whole = size < 6 ? "" + r.nextInt(4) : size < 9 ? "" + r.nextInt(40) : "" + r.nextInt(100000);
        if (!chance(25)) {
            return sign + whole;
        }
        return sign + whole + "." + (chance(60) ? "" + r.nextInt(10) : chance(50) ? "25" : "" + (100 + r.nextInt(900)));
    }

    private String expression(int depth, String scope) {
        left--;
        if (depth <= 0 || left <= 0 || chance(15)) {
            return scope.isEmpty() || chance(35) ? number() : "" + pick(scope);
        }
        int k = r.nextInt(100);
        if (k < 30) {
            return "(" + expression(depth - 1, scope) + pick("++--*/%<=") + expression(depth - 1, scope) + ")";
        }
        if (k < 45) {
            return "?(" + expression(depth - 1, scope) + "," + expression(depth - 1, scope) + ","
                + expression(depth - 1, scope) + ")";
        }
        if (k < 65) {
            return call(depth, scope);
        }
        if (k < 75) {
            return "[" + expression(depth - 1, scope) + "," + expression(depth - 1, scope) + "]";
        }
        if (k < 86) {
            return pick("$^#@@~~") + expression(depth - 1, scope);
        }
        if (k < 90) {
            return "!" + expression(depth - 1, scope);
        }
        if (k < 93) {
            return "&" + r.nextInt(8) + expression(depth - 1, scope);
        }
        if (k < 95) {
            return "_" + r.nextInt(8);
        }
        char v = pick("mnopqxyz");
        return ":" + v + "=" + expression(depth - 1, scope) + "," + expression(depth - 1, scope + v);
    }

    private String call(int depth, String scope) {
        int[] head = chance(97) ? heads.get(r.nextInt(heads.size())) : new int[] {r.nextInt(12), r.nextInt(6)};
        StringBuilder b = new StringBuilder().append((char) ('a' + head[0])).append('(');
        for (int k = 0; k < head[1]; k++) {
            b.append(k > 0 ? "," : "");
            if (!scope.isEmpty() && chance(50)) {
                b.append(step(scope));
            } else {
                b.append(expression(depth - 1, scope));
            }
        }
        return b.append(')').toString();
    }

    /** An argument as calls of themselves have them. */
    private String step(String scope) {
        char v = pick(scope);
        switch (r.nextInt(7)) {
            case 0:
                return "(" + v + "+1)";
            case 1:
            case 2:
                return "(" + v + "-1)";
            case 3:
                return "~" + v;
            case 4:
                return "[" + pick(scope) + "," + v + "]";
            case 5:
                return "(" + v + "/2)";
            default:
                return "" + v;
        }
    }

    private String programText() {
        int n = 1 + r.nextInt(4);
        heads.clear();
        for (int k = 0; k < n; k++) {
            heads.add(new int[] {r.nextInt(chance(50) ? 3 : 12), r.nextInt(chance(80) ? 4 : 6)});
        }
        StringBuilder b = new StringBuilder();
        for (int[] head : heads) {
            String scope = "";
            b.append((char) ('a' + head[0])).append('(');
            for (int k = 0; k < head[1]; k++) {
                char v = "xyzmno".charAt(k);
                scope += v;
                b.append(k > 0 ? "," : "").append(v);
            }
            left = chance(10) ? 90 : 10 + r.nextInt(50);
            b.append(")=");
            if (!scope.isEmpty() && chance(60)) {
                b.append("?(").append(chance(50) ? "" + pick(scope) : "(" + pick(scope) + "<" + number() + ")");
                b.append(",").append(chance(70) ? expression(4, scope) : number()).append(",").append(expression(4, scope)).append(")");
            } else {
                b.append(expression(chance(5) ? 24 : 5, scope));
            }
            b.append(';');
        }
        return b.toString();
    }

    private String part(int depth, boolean stars) {
        if (depth > 0 && chance(30)) {
            return "[" + part(depth - 1, stars) + "," + part(depth - 1, stars) + "]";
        }
        return stars && chance(55) ? "*" : number();
    }

    private String taskText() {
        int[] head = chance(97) ? heads.get(r.nextInt(heads.size())) : new int[] {r.nextInt(12), r.nextInt(6)};
        StringBuilder b = new StringBuilder().append((char) ('a' + head[0])).append('(');
        for (int k = 0; k < head[1]; k++) {
            b.append(k > 0 ? "," : "").append(part(chance(10) ? 5 : 2, true));
        }
        return b.append(')').toString();
    }

    private String valuesText(int leaves) {
        StringBuilder b = new StringBuilder();
        for (int k = 0; k < leaves; k++) {
            b.append(k > 0 ? "," : "").append(part(chance(10) ? 5 : 2, false));
        }
        return b.toString();
    }

    private String spoilt(String text) {
        if (!chance(12) || text.isEmpty()) {
            return text;
        }
        int at = r.nextInt(text.length());
        switch (r.nextInt(4)) {
            case 0:
                return text.substring(0, at);
            case 1:
                return text.substring(0, at) + text.substring(at + 1);
            case 2:
                return text.substring(0, at) + pick("abmxyz019(),[]?:=;!&_$^#@~*.-+<") + text.substring(at);
            default:
                return text.substring(0, at) + (char) r.nextInt(256) + text.substring(at + 1);
        }
    }

    private static String cutTo800(String text) {
        return text.length() > 800 ? text.substring(0, 800) : text;
    }

    // ---------------------------------------------------------------- weighing

    private String told;

    private void oneCase(long seed) {
        OnlineParts x = new OnlineParts();
        Naive n = new Naive();
        String p = cutTo800(spoilt(programText()));
        told = "seed " + seed + " " + p;
        int want = -1;
        int fault = -1;
        try {
            n.functions = n.program(p);
            want = n.functions.size();
        } catch (Naive.Fault f) {
            fault = f.at;
        }
        Check.due(told + " program()", Check.program(x, p), want);
        Check.due(told + " fault()", x.fault(), fault);
        if (fault >= 0) {
            return;
        }
        weighFunctions(x, n);
        for (int k = 0; k < 3; k++) {
            weighTask(x, n);
        }
    }

    private void weighFunctions(OnlineParts x, Naive n) {
        int things = 0;
        for (int k = 0; k < n.functions.size(); k++) {
            Naive.F f = n.functions.get(k);
            int[] about = {f.letter, f.vars.length(), f.things, f.calls, f.outs, f.places, -1};
            for (int what = 0; what < about.length; what++) {
                Check.due(told + " function(" + k + "," + what + ")", x.function(k, what), about[what]);
            }
            things += f.things;
        }
        Check.due(told + " is(7)", x.is(7), things);
    }

    private void weighTask(OnlineParts x, Naive n) {
        String text = spoilt(taskText());
        String was = told;
        told = was + " " + text;
        Naive.Task task = null;
        int want = -1;
        int fault = -1;
        try {
            task = n.task(text);
            want = 0;
            for (Object a : task.args) {
                want += Naive.stars(a);
            }
        } catch (Naive.Fault f) {
            fault = f.at;
        }
        Check.due(told + " task()", Check.task(x, text), want);
        Check.due(told + " fault()", x.fault(), fault);
        if (fault < 0) {
            weighSettings(x, n);
            Naive.Res res = weighSpecialise(x, n, task);
            for (int k = 0; k < 2; k++) {
                weighRuns(x, n, task, res, want);
            }
        }
        told = was;
    }

    private void weighSettings(OnlineParts x, Naive n) {
        n.unroll = chance(40) ? 6 : r.nextInt(13);
        n.maxVariants = 1 + r.nextInt(6);
        n.budget = chance(30) ? 120 : chance(50) ? 300 : 10 + r.nextInt(60);
        told += " " + n.unroll + " " + n.maxVariants + " " + n.budget;
        x.set(0, n.unroll);
        x.set(1, n.maxVariants);
        x.set(2, n.budget);
    }

    private Naive.Res weighSpecialise(OnlineParts x, Naive n, Naive.Task task) {
        Naive.Res res = null;
        int want;
        try {
            res = n.specialise(task);
            want = res.variants.size();
        } catch (Naive.End e) {
            want = e.how;
        }
        BREAKS[want < 0 ? -want : 0]++;
        Check.due(told + " specialise()", x.specialise(), want);
        if (want < 0) {
            Check.due(told + " residue(0)", x.residue(0), -1);
            return null;
        }
        int[] k = res.kinds;
        int[] about = {want, res.code, res.unrolled, k[11], k[7], k[8] + k[9], k[10], k[6], res.grown, res.letGo, -1};
        for (int what = 0; what < about.length; what++) {
            Check.due(told + " residue(" + what + ")", x.residue(what), about[what]);
        }
        for (Naive.Variant v : res.variants) {
            weighVariant(x, v);
        }
        return res;
    }

    private void weighVariant(OnlineParts x, Naive.Variant v) {
        int numbers = 0;
        for (Object p : v.pattern) {
            numbers += Naive.numbers(p);
        }
        int parent = v.parent == null ? -1 : v.parent.number;
        int[] about = {v.f.letter, v.regs, v.stars, v.count, parent, v.calls, numbers, -1};
        for (int what = 0; what < about.length; what++) {
            Check.due(told + " variant(" + v.number + "," + what + ")", x.variant(v.number, what), about[what]);
        }
        for (int kind = 0; kind < 13; kind++) {
            Check.due(told + " kinds(" + v.number + "," + kind + ")", x.kinds(v.number, kind), v.kinds[kind]);
        }
        Check.due(told + " write(" + v.number + ")", Check.text(x, v.number), Naive.text(v));
    }

    private void weighRuns(OnlineParts x, Naive n, Naive.Task task, Naive.Res res, int leaves) {
        String text = spoilt(valuesText(leaves));
        String was = told;
        told = was + " " + text;
        List<Object> values = null;
        int fault = -1;
        try {
            values = n.values(text, leaves);
        } catch (Naive.Fault f) {
            fault = f.at;
        }
        Check.due(told + " values()", Check.values(x, text), fault < 0 ? leaves : -1);
        Check.due(told + " fault()", x.fault(), fault);
        if (fault < 0) {
            Naive.Run a = n.runTask(task, values);
            weighRun(x, 0, a);
            int agree = -1;
            int saved = -1000;
            if (res != null) {
                Naive.Run b = n.runResidue(res, values);
                weighRun(x, 1, b);
                agree = a.picture().equals(b.picture()) ? 1 : 0;
                saved = a.end == 0 && b.end == 0 ? a.calls - b.calls : -1000;
                agreed += agree;
                disagreed += 1 - agree;
            } else {
                Check.due(told + " run(1, 0)", x.run(1, 0), -1);
            }
            Check.due(told + " agree()", x.agree(), agree);
            Check.due(told + " saved()", x.saved(), saved);
        }
        told = was;
    }

    private void weighRun(OnlineParts x, int where, Naive.Run run) {
        ENDS[run.end]++;
        boolean done = run.end == 0;
        int[] about = {run.end, run.calls, run.written, done ? Naive.weight(run.value) : 0,
            done ? Naive.deep(run.value) : 0, run.most};
        for (int what = 0; what < about.length; what++) {
            Check.due(told + " run(" + where + "," + what + ")", x.run(where, what), about[what]);
        }
        if (done) {
            Check.due(told + " value()", Check.value(x), Naive.show(run.value));
        }
        for (int k = 0; k < run.out.size(); k++) {
            Object o = run.out.get(k);
            Check.due(told + " output(" + k + ",0)", x.output(k, 0), o instanceof Float ? 1 : 0);
            Check.due(told + " output(" + k + ",1)", x.output(k, 1), Naive.bits(o));
        }
        Check.due(told + " output(behind)", x.output(run.out.size(), 0), -1);
        for (int d = 0; d < 8; d++) {
            Check.due(told + " place(" + d + ")", x.place(d), Naive.bits(run.places[d]));
        }
    }
}
