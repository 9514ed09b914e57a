import java.util.ArrayList;
import java.util.HashMap;
import java.util.List;
import java.util.Map;

/**
 * The document told a second time, in the plainest Java: trees, recursion, the machine's own floats.
 * What the class answers is weighed against this one in AgainstNaive.
 */
final class Naive {
    record P(Object a, Object b) { }

    record R(int n) { }

    enum Star { STAR }

    static final class Fault extends RuntimeException {
        final int at;

        Fault(int at) {
            super(null, null, false, false);
            this.at = at;
        }
    }

    static final class End extends RuntimeException {
        final int how;

        End(int how) {
            super(null, null, false, false);
            this.how = how;
        }
    }

    static final class E {
        final char k;
        int d;
        Object num;
        E[] kids = new E[0];

        E(char k) {
            this.k = k;
        }
    }

    static final class F {
        int letter;
        String vars = "";
        E body;
        int things;
        int calls;
        int outs;
        int places;
    }

    static final class Task {
        int letter;
        List<Object> args = new ArrayList<>();
    }

    // ---------------------------------------------------------------- reading

    private String t;
    private int i;
    private F now;
    private int things;
    private int stars;

    private char c() {
        return i < t.length() ? t.charAt(i) : (char) 999;
    }

    private void eat(char x) {
        if (c() != x) {
            throw new Fault(i);
        }
        i++;
    }

    List<F> program(String text) {
        t = text;
        i = 0;
        List<F> fs = new ArrayList<>();
        while (i < t.length()) {
            int begin = i;
            now = new F();
            if (c() < 'a' || c() > 'l') {
                throw new Fault(i);
            }
            now.letter = c() - 'a' + 1;
            i++;
            eat('(');
            if (c() != ')') {
                do {
                    if (!now.vars.isEmpty()) {
                        i++;
                    }
                    if (c() < 'm' || c() > 'z' || now.vars.indexOf(c()) >= 0) {
                        throw new Fault(i);
                    }
                    now.vars += c();
                    i++;
                } while (c() == ',' && now.vars.length() < 5);
            }
            eat(')');
            if (c() != '=') {
                throw new Fault(i);
            }
            for (F f : fs) {
                if (f.letter == now.letter && f.vars.length() == now.vars.length()) {
                    throw new Fault(begin);
                }
            }
            i++;
            now.body = expression(0, now.vars);
            eat(';');
            fs.add(now);
        }
        return fs;
    }

    private E expression(int depth, String scope) {
        char x = c();
        boolean starts = x >= '0' && x <= '9' || x >= 'a' && x <= 'z' || "-($^#@~[?!&_:".indexOf(x) >= 0;
        if (!starts || depth == 20 || now.things == 80) {
            throw new Fault(i);
        }
        now.things++;
        E e = new E(x >= '0' && x <= '9' || x == '-' ? '0' : x >= 'm' && x <= 'z' ? 'v' : x >= 'a' && x <= 'l' ? 'f' : x);
        if (e.k == '0') {
            e.num = number();
            return e;
        }
        int begin = i;
        i++;
        List<E> kids = new ArrayList<>();
        switch (e.k) {
            case 'v' -> {
                if (scope.indexOf(x) < 0) {
                    throw new Fault(begin);
                }
                e.d = x;
            }
            case 'f' -> {
                now.calls++;
                e.d = x - 'a' + 1;
                eat('(');
                if (c() != ')') {
                    kids.add(expression(depth + 1, scope));
                    while (c() == ',' && kids.size() < 5) {
                        i++;
                        kids.add(expression(depth + 1, scope));
                    }
                }
                eat(')');
            }
            case '(' -> {
                kids.add(expression(depth + 1, scope));
                if ("+-*/%<=".indexOf(c()) < 0) {
                    throw new Fault(i);
                }
                e.d = c();
                i++;
                kids.add(expression(depth + 1, scope));
                eat(')');
            }
            case '[' -> {
                kids.add(expression(depth + 1, scope));
                eat(',');
                kids.add(expression(depth + 1, scope));
                eat(']');
            }
            case '?' -> {
                eat('(');
                kids.add(expression(depth + 1, scope));
                eat(',');
                kids.add(expression(depth + 1, scope));
                eat(',');
                kids.add(expression(depth + 1, scope));
                eat(')');
            }
            case '&', '_' -> {
                now.places++;
                if (c() < '0' || c() > '7') {
                    throw new Fault(i);
                }
                e.d = c() - '0';
                i++;
                if (e.k == '&') {
                    kids.add(expression(depth + 1, scope));
                }
            }
            case ':' -> {
                if (c() < 'm' || c() > 'z') {
                    throw new Fault(i);
                }
                e.d = c();
                i++;
                eat('=');
                kids.add(expression(depth + 1, scope));
                eat(',');
                kids.add(expression(depth + 1, scope + (char) e.d));
            }
            default -> {
                if (e.k == '!') {
                    now.outs++;
                }
                kids.add(expression(depth + 1, scope));
            }
        }
        e.kids = kids.toArray(new E[0]);
        return e;
    }

    private Object number() {
        int sign = 1;
        if (c() == '-') {
            sign = -1;
            i++;
        }
        String whole = digits(5);
        if (c() != '.') {
            return sign * Integer.parseInt(whole);
        }
        i++;
        String broken = digits(3);
        float by = broken.length() == 1 ? 10f : broken.length() == 2 ? 100f : 1000f;
        return (float) (sign * Integer.parseInt(whole + broken)) / by;
    }

    private String digits(int most) {
        StringBuilder b = new StringBuilder();
        while (b.length() < most && c() >= '0' && c() <= '9') {
            b.append(c());
            i++;
        }
        if (b.length() == 0) {
            throw new Fault(i);
        }
        return b.toString();
    }

    Task task(String text) {
        t = text;
        i = 0;
        things = 0;
        stars = 0;
        Task task = new Task();
        if (c() < 'a' || c() > 'l') {
            throw new Fault(i);
        }
        task.letter = c() - 'a' + 1;
        i++;
        eat('(');
        if (c() != ')') {
            task.args.add(part(8));
            while (c() == ',' && task.args.size() < 5) {
                i++;
                task.args.add(part(8));
            }
        }
        eat(')');
        if (i < t.length()) {
            throw new Fault(i);
        }
        return task;
    }

    List<Object> values(String text, int leaves) {
        t = text;
        i = 0;
        things = 0;
        stars = 0;
        List<Object> vs = new ArrayList<>();
        for (int k = 0; k < leaves; k++) {
            if (k > 0) {
                eat(',');
            }
            vs.add(part(0));
        }
        if (i < t.length()) {
            throw new Fault(i);
        }
        return vs;
    }

    private Object part(int mayStars) {
        if (things == 30) {
            throw new Fault(i);
        }
        things++;
        if (c() == '[') {
            i++;
            Object a = part(mayStars);
            eat(',');
            Object b = part(mayStars);
            eat(']');
            return new P(a, b);
        }
        if (c() == '*' && stars < mayStars) {
            stars++;
            i++;
            return Star.STAR;
        }
        if (c() == '-' || c() >= '0' && c() <= '9') {
            return number();
        }
        throw new Fault(i);
    }

    // ---------------------------------------------------------------- numbers

    static Object num(Object v) {
        return v instanceof P p ? num(p.a) : v;
    }

    static boolean known(Object v) {
        return v instanceof Integer || v instanceof Float;
    }

    static int weight(Object v) {
        return v instanceof P p ? 1 + weight(p.a) + weight(p.b) : 1;
    }

    static int deep(Object v) {
        return v instanceof P p ? 1 + Math.max(deep(p.a), deep(p.b)) : 0;
    }

    static int cut(Object n) {
        return n instanceof Float f ? (int) (float) f : (Integer) n;
    }

    static float flt(Object n) {
        return n instanceof Float f ? f : (float) (int) (Integer) n;
    }

    static boolean truth(Object n) {
        return n instanceof Float f ? f != 0f : (Integer) n != 0;
    }

    static Object apply(int o, Object a, Object b) {
        if (o == '%') {
            return cut(b) == 0 ? 0 : cut(a) % cut(b);
        }
        if (a instanceof Integer x && b instanceof Integer y) {
            return switch (o) {
                case '+' -> x + y;
                case '-' -> x - y;
                case '*' -> x * y;
                case '/' -> y == 0 ? 0 : x / y;
                case '<' -> x < y ? 1 : 0;
                default -> x.intValue() == y.intValue() ? 1 : 0;
            };
        }
        float x = flt(a);
        float y = flt(b);
        if (o == '<') {
            return x < y ? 1 : 0;
        }
        if (o == '=') {
            return x == y ? 1 : 0;
        }
        return o == '+' ? x + y : o == '-' ? x - y : o == '*' ? x * y : x / y;
    }

    static Object turn(char k, Object n) {
        return k == '$' ? (Object) cut(n) : k == '^' ? (Object) flt(n) : (Object) Float.floatToIntBits(flt(n));
    }

    static Object stored(int d, Object n) {
        return d < 4 ? (Object) cut(n) : (Object) flt(n);
    }

    static int bits(Object n) {
        return n instanceof Float f ? Float.floatToIntBits(f) : (Integer) n;
    }

    static String show(Object v) {
        if (v instanceof P p) {
            return "[" + show(p.a) + "," + show(p.b) + "]";
        }
        if (v instanceof R r) {
            return "r" + r.n;
        }
        if (v == Star.STAR) {
            return "*";
        }
        return (v instanceof Float ? "f" : "") + bits(v);
    }

    // ---------------------------------------------------------------- runs

    static final class Run {
        int end;
        int calls;
        int depth;
        int most;
        int written;
        Object value;
        List<Object> out = new ArrayList<>();
        Object[] places = {0, 0, 0, 0, 0f, 0f, 0f, 0f};

        void begin() {
            if (calls == 100) {
                throw new End(1);
            }
            if (depth == 30) {
                throw new End(3);
            }
            calls++;
            depth++;
            most = Math.max(most, depth);
        }

        void write(Object n) {
            written++;
            if (out.size() < 60) {
                out.add(n);
            }
        }

        Object put(int d, Object n) {
            places[d] = stored(d, n);
            return places[d];
        }

        Object pair(Object a, Object b) {
            P p = new P(a, b);
            if (weight(p) > 40) {
                throw new End(2);
            }
            return p;
        }

        String picture() {
            StringBuilder b = new StringBuilder();
            b.append(end).append(' ').append(value == null ? "-" : show(value));
            for (Object o : out) {
                b.append(' ').append(show(o));
            }
            for (Object o : places) {
                b.append(' ').append(show(o));
            }
            return b.toString();
        }
    }

    List<F> functions = new ArrayList<>();

    F find(int letter, int n) {
        for (F f : functions) {
            if (f.letter == letter && f.vars.length() == n) {
                return f;
            }
        }
        return null;
    }

    Run runTask(Task task, List<Object> values) {
        Run run = new Run();
        int[] leaf = {0};
        List<Object> args = new ArrayList<>();
        for (Object a : task.args) {
            args.add(fill(a, values, leaf));
        }
        try {
            for (Object a : args) {
                if (weight(a) > 40) {
                    throw new End(2);
                }
            }
            run.value = call(task.letter, args, run);
        } catch (End e) {
            run.end = e.how;
        }
        return run;
    }

    private static Object fill(Object a, List<Object> values, int[] leaf) {
        if (a instanceof P p) {
            Object x = fill(p.a, values, leaf);
            return new P(x, fill(p.b, values, leaf));
        }
        return a == Star.STAR ? values.get(leaf[0]++) : a;
    }

    private Object call(int letter, List<Object> args, Run run) {
        F f = find(letter, args.size());
        if (f == null) {
            throw new End(4);
        }
        run.begin();
        Map<Character, Object> env = new HashMap<>();
        for (int k = 0; k < args.size(); k++) {
            env.put(f.vars.charAt(k), args.get(k));
        }
        Object v = eval(f.body, env, run);
        run.depth--;
        return v;
    }

    private Object eval(E e, Map<Character, Object> env, Run run) {
        switch (e.k) {
            case '0':
                return e.num;
            case 'v':
                return env.get((char) e.d);
            case '?':
                return truth(num(eval(e.kids[0], env, run))) ? eval(e.kids[1], env, run) : eval(e.kids[2], env, run);
            case ':':
                Map<Character, Object> inner = new HashMap<>(env);
                inner.put((char) e.d, eval(e.kids[0], env, run));
                return eval(e.kids[1], inner, run);
            case '_':
                return run.places[e.d];
            default:
                break;
        }
        List<Object> a = new ArrayList<>();
        for (E kid : e.kids) {
            a.add(eval(kid, env, run));
        }
        switch (e.k) {
            case 'f':
                return call(e.d, a, run);
            case '(':
                return apply(e.d, num(a.get(0)), num(a.get(1)));
            case '[':
                return run.pair(a.get(0), a.get(1));
            case '@':
                return a.get(0) instanceof P p ? p.a : a.get(0);
            case '~':
                return a.get(0) instanceof P p ? p.b : (Object) 0;
            case '!':
                run.write(num(a.get(0)));
                return a.get(0);
            case '&':
                return run.put(e.d, num(a.get(0)));
            default:
                return turn(e.k, num(a.get(0)));
        }
    }

    // ---------------------------------------------------------------- specialising

    static final class Block {
        List<Ins> row = new ArrayList<>();
        Object end;
    }

    static final class Ins {
        int kind;
        int reg = -1;
        int mark;
        Object a;
        Object b;
        Block one;
        Block two;
        Variant to;
        List<Object> args = new ArrayList<>();
    }

    static final class Variant {
        int number;
        F f;
        List<Object> pattern;
        Variant parent;
        int calls;
        int regs;
        int stars;
        int count;
        int[] kinds = new int[13];
        Block block;
    }

    static final class Res {
        List<Variant> variants = new ArrayList<>();
        int code;
        int unrolled;
        int grown;
        int letGo;
        int[] kinds = new int[13];
    }

    int unroll = 6;
    int maxVariants = 3;
    int budget = 120;
    private Res res;
    private Variant v;
    private Block block;
    private int ifs;
    private int unrolledDepth;

    Res specialise(Task task) {
        res = new Res();
        F f = find(task.letter, task.args.size());
        if (f == null) {
            throw new End(-6);
        }
        variant(f, task.args, null);
        for (int k = 0; k < res.variants.size(); k++) {
            v = res.variants.get(k);
            v.block = new Block();
            block = v.block;
            ifs = 0;
            unrolledDepth = 0;
            Map<Character, Object> env = new HashMap<>();
            for (int n = 0; n < v.pattern.size(); n++) {
                env.put(v.f.vars.charAt(n), registers(v.pattern.get(n)));
            }
            v.stars = v.regs;
            Object s = work(v.f.body, env);
            v.block.end = lift(s);
        }
        return res;
    }

    private Object registers(Object p) {
        if (p instanceof P q) {
            Object a = registers(q.a);
            return new P(a, registers(q.b));
        }
        return p == Star.STAR ? new R(v.regs++) : p;
    }

    private Variant variant(F f, List<Object> pattern, Variant parent) {
        if (res.variants.size() == 24) {
            throw new End(-4);
        }
        Variant w = new Variant();
        w.number = res.variants.size();
        w.f = f;
        w.pattern = pattern;
        w.parent = parent;
        res.variants.add(w);
        return w;
    }

    private Ins emit(int kind, int mark, Object a, Object b) {
        if (res.code == 300) {
            throw new End(-2);
        }
        Ins ins = new Ins();
        ins.kind = kind;
        ins.mark = mark;
        ins.a = a;
        ins.b = b;
        res.code++;
        res.kinds[kind]++;
        v.kinds[kind]++;
        v.count++;
        if (kind != 7) {
            ins.reg = v.regs++;
        }
        block.row.add(ins);
        return ins;
    }

    private R reg(Ins ins) {
        return new R(ins.reg);
    }

    private Object lift(Object s) {
        if (s instanceof P p) {
            Object a = lift(p.a);
            Object b = lift(p.b);
            return reg(emit(10, 0, a, b));
        }
        return s;
    }

    private Object work(E e, Map<Character, Object> env) {
        switch (e.k) {
            case '0':
                return e.num;
            case 'v':
                return env.get((char) e.d);
            case '?':
                return choice(e, env);
            case ':':
                Map<Character, Object> inner = new HashMap<>(env);
                inner.put((char) e.d, work(e.kids[0], env));
                return work(e.kids[1], inner);
            case '_':
                return reg(emit(9, e.d, null, null));
            default:
                break;
        }
        List<Object> a = new ArrayList<>();
        for (E kid : e.kids) {
            a.add(work(kid, env));
        }
        Object n = a.isEmpty() ? null : num(a.get(0));
        switch (e.k) {
            case 'f':
                return workCall(e.d, a);
            case '(':
                Object m = num(a.get(1));
                return known(n) && known(m) ? apply(e.d, n, m) : reg(emit(0, e.d, n, m));
            case '[':
                P made = new P(a.get(0), a.get(1));
                if (weight(made) > 40) {
                    throw new End(-5);
                }
                return made;
            case '@':
                return a.get(0) instanceof P p ? p.a : known(a.get(0)) ? a.get(0) : reg(emit(4, 0, a.get(0), null));
            case '~':
                return a.get(0) instanceof P p ? p.b : known(a.get(0)) ? (Object) 0 : reg(emit(5, 0, a.get(0), null));
            case '!':
                emit(7, 0, n, null);
                return a.get(0);
            case '&':
                R there = reg(emit(8, e.d, n, null));
                return known(n) ? stored(e.d, n) : there;
            default:
                return known(n) ? turn(e.k, n) : reg(emit("$^#".indexOf(e.k) + 1, 0, n, null));
        }
    }

    private Object choice(E e, Map<Character, Object> env) {
        Object n = num(work(e.kids[0], env));
        if (known(n)) {
            return work(e.kids[truth(n) ? 1 : 2], env);
        }
        Block outer = block;
        Block one = new Block();
        Block two = new Block();
        ifs++;
        block = one;
        one.end = lift(work(e.kids[1], env));
        block = two;
        two.end = lift(work(e.kids[2], env));
        ifs--;
        block = outer;
        Ins ins = emit(6, 0, n, null);
        ins.one = one;
        ins.two = two;
        boolean same = known(one.end) && known(two.end) && show(one.end).equals(show(two.end));
        return same ? one.end : reg(ins);
    }

    private Object workCall(int letter, List<Object> args) {
        F f = find(letter, args.size());
        if (f == null) {
            return reg(emit(12, 0, null, null));
        }
        if (ifs == 0 && unrolledDepth < unroll) {
            if (res.unrolled == 200) {
                throw new End(-3);
            }
            res.unrolled++;
            unrolledDepth++;
            Map<Character, Object> env = new HashMap<>();
            for (int k = 0; k < args.size(); k++) {
                env.put(f.vars.charAt(k), args.get(k));
            }
            Object s = work(f.body, env);
            unrolledDepth--;
            return s;
        }
        List<Object> pattern = new ArrayList<>();
        for (Object a : args) {
            pattern.add(starred(a));
        }
        for (Variant w = v; w != null; w = w.parent) {
            if (w.f == f) {
                for (int k = 0; k < pattern.size(); k++) {
                    pattern.set(k, grow(pattern.get(k), w.pattern.get(k)));
                }
            }
        }
        Variant to = same(f, pattern);
        int ofF = 0;
        for (Variant w : res.variants) {
            ofF += w.f == f ? 1 : 0;
        }
        int stars = 0;
        for (Object p : pattern) {
            stars += stars(p);
        }
        if (to == null && (ofF >= maxVariants || res.code >= budget || stars > 8)) {
            res.letGo++;
            pattern.replaceAll(p -> Star.STAR);
            to = same(f, pattern);
        }
        if (to == null) {
            to = variant(f, pattern, v);
        }
        List<Object> standing = new ArrayList<>();
        for (int k = 0; k < pattern.size(); k++) {
            standing(pattern.get(k), args.get(k), standing);
        }
        Ins ins = emit(11, 0, null, null);
        ins.to = to;
        ins.args = standing;
        to.calls++;
        return reg(ins);
    }

    private static Object starred(Object s) {
        return s instanceof P p ? new P(starred(p.a), starred(p.b)) : s instanceof R ? Star.STAR : s;
    }

    static int stars(Object p) {
        return p instanceof P q ? stars(q.a) + stars(q.b) : p == Star.STAR ? 1 : 0;
    }

    static int numbers(Object p) {
        return p instanceof P q ? numbers(q.a) + numbers(q.b) : known(p) ? 1 : 0;
    }

    private Object grow(Object p, Object there) {
        if (p instanceof P x && there instanceof P y) {
            Object a = grow(x.a, y.a);
            return new P(a, grow(x.b, y.b));
        }
        boolean go = false;
        if (p instanceof P && known(there)) {
            go = true;
        }
        if (known(p) && known(there) && !show(p).equals(show(there))) {
            go = !(Math.abs(flt(p)) < Math.abs(flt(there)));
        }
        res.grown += go ? 1 : 0;
        return go ? Star.STAR : p;
    }

    private Variant same(F f, List<Object> pattern) {
        for (Variant w : res.variants) {
            if (w.f == f && texts(w.pattern).equals(texts(pattern))) {
                return w;
            }
        }
        return null;
    }

    private static String texts(List<Object> row) {
        StringBuilder b = new StringBuilder();
        for (int k = 0; k < row.size(); k++) {
            b.append(k > 0 ? "," : "").append(show(row.get(k)));
        }
        return b.toString();
    }

    private void standing(Object p, Object s, List<Object> into) {
        if (p == Star.STAR) {
            into.add(lift(s));
        } else if (p instanceof P q && s instanceof P t) {
            standing(q.a, t.a, into);
            standing(q.b, t.b, into);
        }
    }

    static String text(Variant w) {
        return (char) ('a' + w.f.letter - 1) + "(" + texts(w.pattern) + ")=" + text(w.block) + ";";
    }

    private static String text(Block b) {
        StringBuilder s = new StringBuilder();
        for (Ins x : b.row) {
            if (x.kind != 7) {
                s.append('r').append(x.reg).append('=');
            }
            switch (x.kind) {
                case 0 -> s.append('(').append(show(x.a)).append((char) x.mark).append(show(x.b)).append(')');
                case 6 -> s.append('?').append(show(x.a)).append('{').append(text(x.one)).append("}{").append(text(x.two)).append('}');
                case 7 -> s.append('!').append(show(x.a));
                case 8 -> s.append('&').append(x.mark).append(show(x.a));
                case 9 -> s.append('_').append(x.mark);
                case 10 -> s.append('[').append(show(x.a)).append(',').append(show(x.b)).append(']');
                case 11 -> s.append('c').append(x.to.number).append('(').append(texts(x.args)).append(')');
                case 12 -> s.append('-');
                default -> s.append("?$^#@~".charAt(x.kind)).append(show(x.a));
            }
            s.append(';');
        }
        return s.append(show(b.end)).toString();
    }

    // ---------------------------------------------------------------- runs of the residue

    Run runResidue(Res r, List<Object> values) {
        Run run = new Run();
        try {
            run.value = callVariant(r.variants.get(0), values, run);
        } catch (End e) {
            run.end = e.how;
        }
        return run;
    }

    private Object callVariant(Variant w, List<Object> args, Run run) {
        run.begin();
        Object[] regs = new Object[w.regs];
        for (int k = 0; k < args.size(); k++) {
            regs[k] = args.get(k);
        }
        Object got = block(w.block, regs, run);
        run.depth--;
        return got;
    }

    private static Object of(Object s, Object[] regs) {
        return s instanceof R r ? regs[r.n] : s;
    }

    private Object block(Block b, Object[] regs, Run run) {
        for (Ins x : b.row) {
            Object a = of(x.a, regs);
            Object got = null;
            switch (x.kind) {
                case 0 -> got = apply(x.mark, num(a), num(of(x.b, regs)));
                case 1, 2, 3 -> got = turn("?$^#".charAt(x.kind), num(a));
                case 4 -> got = a instanceof P p ? p.a : a;
                case 5 -> got = a instanceof P p ? p.b : 0;
                case 6 -> got = block(truth(num(a)) ? x.one : x.two, regs, run);
                case 7 -> run.write(num(a));
                case 8 -> got = run.put(x.mark, num(a));
                case 9 -> got = run.places[x.mark];
                case 10 -> got = run.pair(a, of(x.b, regs));
                case 11 -> {
                    List<Object> args = new ArrayList<>();
                    for (Object s : x.args) {
                        args.add(of(s, regs));
                    }
                    got = callVariant(x.to, args, run);
                }
                default -> throw new End(4);
            }
            if (x.reg >= 0) {
                regs[x.reg] = got;
            }
        }
        return of(b.end, regs);
    }
}
