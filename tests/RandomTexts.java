import java.util.ArrayList;
import java.util.List;
import java.util.Random;

/** Random texts of PROGRAMS, TASKS and VALUES, most of them well. */
final class RandomTexts {
    private final Random r;
    private final List<int[]> heads = new ArrayList<>();
    private int left;

    RandomTexts(long seed) {
        r = new Random(seed);
    }

    int below(int n) {
        return r.nextInt(n);
    }

    boolean chance(int percent) {
        return r.nextInt(100) < percent;
    }

    private char pick(String of) {
        return of.charAt(r.nextInt(of.length()));
    }

    private String number() {
        String sign = chance(20) ? "-" : "";
        int size = r.nextInt(10);
        String whole = size < 6 ? "" + r.nextInt(4) : size < 9 ? "" + r.nextInt(40) : "" + r.nextInt(100000);
        if (!chance(25)) {
            return sign + whole;
        }
        return sign + whole + "." + (chance(60) ? "" + r.nextInt(10) : chance(50) ? "25" : "" + (100 + r.nextInt(900)));
    }

    private String expression(int depth, String scope) {
        left--;
        if (depth <= 0 || left <= 0 || chance(15)) {
            return scope.isEmpty() || chance(35) ? number() : "" + pick(scope);
        }
        int k = r.nextInt(100);
        if (k < 30) {
            return "(" + expression(depth - 1, scope) + pick("++--*/%<=") + expression(depth - 1, scope) + ")";
        }
        if (k < 45) {
            return "?(" + expression(depth - 1, scope) + "," + expression(depth - 1, scope) + ","
                + expression(depth - 1, scope) + ")";
        }
        if (k < 65) {
            return call(depth, scope);
        }
        if (k < 75) {
            return "[" + expression(depth - 1, scope) + "," + expression(depth - 1, scope) + "]";
        }
        if (k < 86) {
            return pick("$^#@@~~") + expression(depth - 1, scope);
        }
        if (k < 90) {
            return "!" + expression(depth - 1, scope);
        }
        if (k < 93) {
            return "&" + r.nextInt(8) + expression(depth - 1, scope);
        }
        if (k < 95) {
            return "_" + r.nextInt(8);
        }
        char v = pick("mnopqxyz");
        return ":" + v + "=" + expression(depth - 1, scope) + "," + expression(depth - 1, scope + v);
    }

    private String call(int depth, String scope) {
        int[] head = chance(97) ? heads.get(r.nextInt(heads.size())) : new int[] {r.nextInt(12), r.nextInt(6)};
        StringBuilder b = new StringBuilder().append((char) ('a' + head[0])).append('(');
        for (int k = 0; k < head[1]; k++) {
            b.append(k > 0 ? "," : "");
            if (!scope.isEmpty() && chance(50)) {
                b.append(step(scope));
            } else {
                b.append(expression(depth - 1, scope));
            }
        }
        return b.append(')').toString();
    }

    /** An argument as calls of themselves have them. */
    private String step(String scope) {
        char v = pick(scope);
        switch (r.nextInt(7)) {
            case 0:
                return "(" + v + "+1)";
            case 1:
            case 2:
                return "(" + v + "-1)";
            case 3:
                return "~" + v;
            case 4:
                return "[" + pick(scope) + "," + v + "]";
            case 5:
                return "(" + v + "/2)";
            default:
                return "" + v;
        }
    }

    String programText() {
        int n = 1 + r.nextInt(4);
        heads.clear();
        for (int k = 0; k < n; k++) {
            heads.add(new int[] {r.nextInt(chance(50) ? 3 : 12), r.nextInt(chance(80) ? 4 : 6)});
        }
        StringBuilder b = new StringBuilder();
        for (int[] head : heads) {
            String scope = "";
            b.append((char) ('a' + head[0])).append('(');
            for (int k = 0; k < head[1]; k++) {
                char v = "xyzmno".charAt(k);
                scope += v;
                b.append(k > 0 ? "," : "").append(v);
            }
            left = chance(10) ? 90 : 10 + r.nextInt(50);
            b.append(")=");
            if (!scope.isEmpty() && chance(60)) {
                b.append("?(").append(chance(50) ? "" + pick(scope) : "(" + pick(scope) + "<" + number() + ")");
                b.append(",").append(chance(70) ? expression(4, scope) : number()).append(",").append(expression(4, scope)).append(")");
            } else {
                b.append(expression(chance(5) ? 24 : 5, scope));
            }
            b.append(';');
        }
        return b.toString();
    }

    private String part(int depth, boolean stars) {
        if (depth > 0 && chance(30)) {
            return "[" + part(depth - 1, stars) + "," + part(depth - 1, stars) + "]";
        }
        return stars && chance(55) ? "*" : number();
    }

    String taskText() {
        int[] head = chance(97) ? heads.get(r.nextInt(heads.size())) : new int[] {r.nextInt(12), r.nextInt(6)};
        StringBuilder b = new StringBuilder().append((char) ('a' + head[0])).append('(');
        for (int k = 0; k < head[1]; k++) {
            b.append(k > 0 ? "," : "").append(part(chance(10) ? 5 : 2, true));
        }
        return b.append(')').toString();
    }

    String valuesText(int leaves) {
        StringBuilder b = new StringBuilder();
        for (int k = 0; k < leaves; k++) {
            b.append(k > 0 ? "," : "").append(part(chance(10) ? 5 : 2, false));
        }
        return b.toString();
    }

    String spoilt(String text) {
        if (!chance(12) || text.isEmpty()) {
            return text;
        }
        int at = r.nextInt(text.length());
        switch (r.nextInt(4)) {
            case 0:
                return text.substring(0, at);
            case 1:
                return text.substring(0, at) + text.substring(at + 1);
            case 2:
                return text.substring(0, at) + pick("abmxyz019(),[]?:=;!&_$^#@~*.-+<") + text.substring(at);
            default:
                return text.substring(0, at) + (char) r.nextInt(256) + text.substring(at + 1);
        }
    }

    static String cutTo800(String text) {
        return text.length() > 800 ? text.substring(0, 800) : text;
    }
}
