import java.util.List;

/** Random programs, tasks, values and broken texts: the class and the naive one answer alike. */
final class AgainstNaive {
    private final RandomTexts r;

    AgainstNaive(long seed) {
        r = new RandomTexts(seed);
    }

    private static final int[] ENDS = new int[5];
    private static final int[] BREAKS = new int[8];
    private static int agreed;
    private static int disagreed;

    public static void main(String[] args) {
        int cases = args.length > 0 ? Integer.parseInt(args[0]) : 20000;
        long first = args.length > 1 ? Long.parseLong(args[1]) : 1;
        for (int k = 0; k < cases && Check.allDue(); k++) {
            new AgainstNaive(first + k).oneCase(first + k);
        }
        StringBuilder seen = new StringBuilder("runs by their ends:");
        for (int n : ENDS) {
            seen.append(' ').append(n);
        }
        seen.append(", specialised ").append(BREAKS[0]).append(", broken off:");
        for (int k = 2; k <= 6; k++) {
            seen.append(' ').append(BREAKS[k]);
        }
        System.out.println(seen + ", agreed " + agreed + ", not " + disagreed);
        Check.close("AgainstNaive");
    }

    // ---------------------------------------------------------------- weighing

    private String told;

    private void oneCase(long seed) {
        OnlineParts x = new OnlineParts();
        Naive n = new Naive();
        String p = RandomTexts.cutTo800(r.spoilt(r.programText()));
        told = "seed " + seed + " " + p;
        int want = -1;
        int fault = -1;
        try {
            n.functions = n.program(p);
            want = n.functions.size();
        } catch (Naive.Fault f) {
            fault = f.at;
        }
        Check.due(told + " program()", Check.program(x, p), want);
        Check.due(told + " fault()", x.fault(), fault);
        if (fault >= 0) {
            return;
        }
        weighFunctions(x, n);
        for (int k = 0; k < 3; k++) {
            weighTask(x, n);
        }
    }

    private void weighFunctions(OnlineParts x, Naive n) {
        int things = 0;
        for (int k = 0; k < n.functions.size(); k++) {
            Naive.F f = n.functions.get(k);
            int[] about = {f.letter, f.vars.length(), f.things, f.calls, f.outs, f.places, -1};
            for (int what = 0; what < about.length; what++) {
                Check.due(told + " function(" + k + "," + what + ")", x.function(k, what), about[what]);
            }
            things += f.things;
        }
        Check.due(told + " is(7)", x.is(7), things);
    }

    private void weighTask(OnlineParts x, Naive n) {
        String text = r.spoilt(r.taskText());
        String was = told;
        told = was + " " + text;
        Naive.Task task = null;
        int want = -1;
        int fault = -1;
        try {
            task = n.task(text);
            want = 0;
            for (Object a : task.args) {
                want += Naive.stars(a);
            }
        } catch (Naive.Fault f) {
            fault = f.at;
        }
        Check.due(told + " task()", Check.task(x, text), want);
        Check.due(told + " fault()", x.fault(), fault);
        if (fault < 0) {
            weighSettings(x, n);
            Naive.Res res = weighSpecialise(x, n, task);
            for (int k = 0; k < 2; k++) {
                weighRuns(x, n, task, res, want);
            }
        }
        told = was;
    }

    private void weighSettings(OnlineParts x, Naive n) {
        n.unroll = r.chance(40) ? 6 : r.below(13);
        n.maxVariants = 1 + r.below(6);
        n.budget = r.chance(30) ? 120 : r.chance(50) ? 300 : 10 + r.below(60);
        told += " " + n.unroll + " " + n.maxVariants + " " + n.budget;
        x.set(0, n.unroll);
        x.set(1, n.maxVariants);
        x.set(2, n.budget);
    }

    private Naive.Res weighSpecialise(OnlineParts x, Naive n, Naive.Task task) {
        Naive.Res res = null;
        int want;
        try {
            res = n.specialise(task);
            want = res.variants.size();
        } catch (Naive.End e) {
            want = e.how;
        }
        BREAKS[want < 0 ? -want : 0]++;
        Check.due(told + " specialise()", x.specialise(), want);
        if (want < 0) {
            Check.due(told + " residue(0)", x.residue(0), -1);
            return null;
        }
        int[] k = res.kinds;
        int[] about = {want, res.code, res.unrolled, k[11], k[7], k[8] + k[9], k[10], k[6], res.grown, res.letGo, -1};
        for (int what = 0; what < about.length; what++) {
            Check.due(told + " residue(" + what + ")", x.residue(what), about[what]);
        }
        for (Naive.Variant v : res.variants) {
            weighVariant(x, v);
        }
        return res;
    }

    private void weighVariant(OnlineParts x, Naive.Variant v) {
        int numbers = 0;
        for (Object p : v.pattern) {
            numbers += Naive.numbers(p);
        }
        int parent = v.parent == null ? -1 : v.parent.number;
        int[] about = {v.f.letter, v.regs, v.stars, v.count, parent, v.calls, numbers, -1};
        for (int what = 0; what < about.length; what++) {
            Check.due(told + " variant(" + v.number + "," + what + ")", x.variant(v.number, what), about[what]);
        }
        for (int kind = 0; kind < 13; kind++) {
            Check.due(told + " kinds(" + v.number + "," + kind + ")", x.kinds(v.number, kind), v.kinds[kind]);
        }
        Check.due(told + " write(" + v.number + ")", Check.text(x, v.number), Naive.text(v));
    }

    private void weighRuns(OnlineParts x, Naive n, Naive.Task task, Naive.Res res, int leaves) {
        String text = r.spoilt(r.valuesText(leaves));
        String was = told;
        told = was + " " + text;
        List<Object> values = null;
        int fault = -1;
        try {
            values = n.values(text, leaves);
        } catch (Naive.Fault f) {
            fault = f.at;
        }
        Check.due(told + " values()", Check.values(x, text), fault < 0 ? leaves : -1);
        Check.due(told + " fault()", x.fault(), fault);
        if (fault < 0) {
            Naive.Run a = n.runTask(task, values);
            weighRun(x, 0, a);
            int agree = -1;
            int saved = -1000;
            if (res != null) {
                Naive.Run b = n.runResidue(res, values);
                weighRun(x, 1, b);
                agree = a.picture().equals(b.picture()) ? 1 : 0;
                saved = a.end == 0 && b.end == 0 ? a.calls - b.calls : -1000;
                agreed += agree;
                disagreed += 1 - agree;
            } else {
                Check.due(told + " run(1, 0)", x.run(1, 0), -1);
            }
            Check.due(told + " agree()", x.agree(), agree);
            Check.due(told + " saved()", x.saved(), saved);
        }
        told = was;
    }

    private void weighRun(OnlineParts x, int where, Naive.Run run) {
        ENDS[run.end]++;
        boolean done = run.end == 0;
        int[] about = {run.end, run.calls, run.written, done ? Naive.weight(run.value) : 0,
            done ? Naive.deep(run.value) : 0, run.most};
        for (int what = 0; what < about.length; what++) {
            Check.due(told + " run(" + where + "," + what + ")", x.run(where, what), about[what]);
        }
        if (done) {
            Check.due(told + " value()", Check.value(x), Naive.show(run.value));
        }
        for (int k = 0; k < run.out.size(); k++) {
            Object o = run.out.get(k);
            Check.due(told + " output(" + k + ",0)", x.output(k, 0), o instanceof Float ? 1 : 0);
            Check.due(told + " output(" + k + ",1)", x.output(k, 1), Naive.bits(o));
        }
        Check.due(told + " output(behind)", x.output(run.out.size(), 0), -1);
        for (int d = 0; d < 8; d++) {
            Check.due(told + " place(" + d + ")", x.place(d), Naive.bits(run.places[d]));
        }
    }
}
