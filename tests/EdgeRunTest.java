/**
 * The edges that the document names for EXPRESSIONS and RUNS ("Terms" I and II; promises 15 to 18, 21,
 * 22): at the edge, one below and one above it.
 */
final class EdgeRunTest {
    private static final String MAX = "((32767*65536)+65535)";
    private static final String MIN = "(-32768*65536)";
    private static final String NAN = "(0/0.0)";
    private static final String INFINITE = "(1/0.0)";
    /** 2 to the 24th: from there on not each INT is a FLOAT. */
    private static final String P24 = "(4096*4096)";
    private static final String LEAST_FLOAT = ":p=(1/65536.0),:q=(p*p),:r=(q*q),(((r*r)*p)/32)";

    public static void main(String[] args) {
        numbersTold();
        ints();
        divisions();
        rests();
        intsToFloats();
        comparisons();
        cuts();
        bitsOfNan();
        parts();
        choices();
        fromTheLeft();
        placesHold();
        tooManyCalls();
        tooDeep();
        tooHeavy();
        whichEndIsFirst();
        outputsKept();
        heavyTask();
        latestRun();
        agreeing();
        Check.close("EdgeRunTest");
    }

    /** The VALUE of an E, reckoned in a RUN and as known numbers while SPECIALISING. */
    private static void is(String sentence, String e, String want) {
        OnlineParts x = Check.with("a()=" + e + ";");
        Check.due(sentence + " " + e, x.run(0, 0), 0);
        Check.due(sentence + " " + e, Check.value(x), want);
        Check.due(sentence + " " + e, x.specialise(), 1);
        Check.due(sentence + " " + e, x.run(1, 0), 0);
        Check.due(sentence + " " + e, Check.value(x), want);
        Check.due(sentence + " " + e, x.agree(), 1);
        if ("$^#@~".indexOf(e.charAt(0)) >= 0) {
            // by an INSTRUCTION of the RESIDUE, too: what it is of comes out of a 6
            OnlineParts y = Check.with("a(x)=" + e.charAt(0) + "?(x," + e.substring(1) + ",-77777);", "a(*)", "1");
            Check.due(sentence + " left over " + e, y.specialise(), 1);
            Check.due(sentence + " left over " + e, y.kinds(0, "$^#@~".indexOf(e.charAt(0)) + 1), 1);
            Check.due(sentence + " left over " + e, y.run(1, 0), 0);
            Check.due(sentence + " left over " + e, Check.value(y), want);
        }
    }

    private static void is(String sentence, String e, int want) {
        is(sentence, e, "" + want);
    }

    private static void is(String sentence, String e, float want) {
        is(sentence, e, "f" + Float.floatToIntBits(want));
    }

    /** As above, and by an INSTRUCTION of the RESIDUE, too: one of the numbers comes as a LEAF. */
    private static void reckoned(String a, String o, String b, String want) {
        String e = "(" + a + o + b + ")";
        is("", e, want);
        OnlineParts x = Check.with("a(x)=(?(x," + a + ",0)" + o + "?(x," + b + ",0));", "a(*)", "1");
        Check.due(e + " left over", x.specialise(), 1);
        Check.due(e + " left over", x.run(1, 0), 0);
        Check.due(e + " left over", Check.value(x), want);
    }

    private static void reckoned(String a, String o, String b, int want) {
        reckoned(a, o, b, "" + want);
    }

    private static void reckoned(String a, String o, String b, float want) {
        reckoned(a, o, b, "f" + Float.floatToIntBits(want));
    }

    private static void numbersTold() {
        is("less the digits", "-99999", -99999);
        is("less the digits", "-0", 0);
        is("less the digits: the INT 0 as a FLOAT", "-0.0", 0f);
        is("by 10", "0.1", 1f / 10f);
        is("by 100", "0.01", 1f / 100f);
        is("by 1000", "0.001", 1f / 1000f);
        is("by 100", "-1.50", -150f / 100f);
        is("the INT as a FLOAT", "99999.999", 99999999f / 1000f);
        is("the INT as a FLOAT", "-99999.999", -99999999f / 1000f);
        is("the INT as a FLOAT, to the nearest", "16777.217", 16777217f / 1000f);
        is("the INT as a FLOAT, to the nearest", "16777.219", 16777219f / 1000f);
        is("5 digits", "00007", 7);
    }

    private static void ints() {
        is("the greatest INT", MAX, Integer.MAX_VALUE);
        is("the least INT", MIN, Integer.MIN_VALUE);
        reckoned(MAX, "+", "0", Integer.MAX_VALUE);
        reckoned(MAX, "+", "1", Integer.MIN_VALUE);
        reckoned(MIN, "-", "0", Integer.MIN_VALUE);
        reckoned(MIN, "-", "1", Integer.MAX_VALUE);
        reckoned("46340", "*", "46340", 2147395600);
        reckoned("46341", "*", "46341", -2147479015);
        reckoned("65536", "*", "65536", 0);
        reckoned(MIN, "*", "-1", Integer.MIN_VALUE);
    }

    private static void divisions() {
        reckoned("7", "/", "2", 3);
        reckoned("-7", "/", "2", -3);
        reckoned("7", "/", "-2", -3);
        reckoned("-7", "/", "-2", 3);
        reckoned("1", "/", "2", 0);
        reckoned("-1", "/", "2", 0);
        reckoned("7", "/", "0", 0);
        reckoned("0", "/", "0", 0);
        reckoned("7", "/", "1", 7);
        reckoned("7", "/", "-1", -7);
        reckoned(MIN, "/", "0", 0);
        reckoned(MIN, "/", "-1", Integer.MIN_VALUE);
        reckoned("7", "/", "0.0", Float.POSITIVE_INFINITY);
        reckoned("-7", "/", "0.0", Float.NEGATIVE_INFINITY);
        reckoned("0", "/", "0.0", Float.NaN);
        reckoned("7.0", "/", "0", Float.POSITIVE_INFINITY);
    }

    private static void rests() {
        reckoned("7", "%", "3", 1);
        reckoned("-7", "%", "3", -1);
        reckoned("7", "%", "-3", 1);
        reckoned("-7", "%", "-3", -1);
        reckoned("7", "%", "0", 0);
        reckoned("7", "%", "1", 0);
        reckoned("7", "%", "-1", 0);
        reckoned(MIN, "%", "-1", 0);
        reckoned("7", "%", "0.999", 0);
        reckoned("7", "%", "-0.999", 0);
        reckoned("7.999", "%", "2.999", 1);
        reckoned("-7.999", "%", "2.999", -1);
        reckoned(NAN, "%", "3", 0);
        reckoned("3", "%", NAN, 0);
        reckoned(INFINITE, "%", "10", 7);
        reckoned("(-1/0.0)", "%", "10", -8);
        reckoned("3", "%", INFINITE, 3);
    }

    private static void intsToFloats() {
        reckoned(P24, "+", "0.0", 16777216f);
        reckoned("(" + P24 + "+1)", "+", "0.0", 16777216f);
        reckoned("(" + P24 + "+2)", "+", "0.0", 16777218f);
        reckoned("(" + P24 + "+3)", "+", "0.0", 16777220f);
        reckoned("0.0", "-", "(" + P24 + "+3)", -16777220f);
        reckoned(MAX, "*", "1.0", 2147483648f);
        reckoned("1.0", "*", MIN, -2147483648f);
        is("NUM as a FLOAT", "^(" + P24 + "+1)", 16777216f);
        is("NUM as a FLOAT", "^" + MAX, 2147483648f);
        is("NUM as a FLOAT", "^0", 0f);
        is("NUM as a FLOAT", "^-1.5", -1.5f);
        is("rounded as FLOATS are", "(0.1+0.2)", 0.1f + 0.2f);
        is("the least FLOAT", "#" + LEAST_FLOAT, 1);
        is("half of the least FLOAT", "#(" + LEAST_FLOAT + "/2)", 0);
    }

    private static void comparisons() {
        reckoned("1", "<", "2", 1);
        reckoned("2", "<", "2", 0);
        reckoned("3", "<", "2", 0);
        reckoned("1", "=", "2", 0);
        reckoned("2", "=", "2", 1);
        reckoned("3", "=", "2", 0);
        reckoned(MIN, "<", MAX, 1);
        reckoned(MAX, "<", MIN, 0);
        reckoned(P24, "<", "(" + P24 + "+1)", 1);
        reckoned(P24, "=", "(" + P24 + "+1)", 0);
        // made alike: FLOATS, if one is
        reckoned("^" + P24, "<", "(" + P24 + "+1)", 0);
        reckoned("^" + P24, "=", "(" + P24 + "+1)", 1);
        reckoned("(" + P24 + "+1)", "=", "^" + P24, 1);
        reckoned("2", "=", "2.0", 1);
        reckoned("2", "<", "2.001", 1);
        reckoned("0.0", "=", "(0*-1.0)", 1);
        reckoned("(0*-1.0)", "<", "0.0", 0);
        reckoned("-1.5", "<", "-1.0", 1);
        reckoned("-1.0", "<", "-1.5", 0);
        for (String o : new String[] {"<", "="}) {
            reckoned(NAN, o, NAN, 0);
            reckoned(NAN, o, "1", 0);
            reckoned("1", o, NAN, 0);
            reckoned(NAN, o, INFINITE, 0);
        }
        reckoned(INFINITE, "=", INFINITE, 1);
        reckoned("(-1/0.0)", "<", MIN, 1);
    }

    private static void cuts() {
        String cut = "NUM cut to an INT";
        is(cut, "$0.999", 0);
        is(cut, "$-0.999", 0);
        is(cut, "$1.0", 1);
        is(cut, "$-1.0", -1);
        is(cut, "$1.999", 1);
        is(cut, "$" + MAX, Integer.MAX_VALUE);
        is(cut, "$" + MIN, Integer.MIN_VALUE);
        is(cut, "$^((32767*65536)+65408)", 2147483520);
        is(cut, "$^" + MIN, Integer.MIN_VALUE);
        is("to the nearest there is", "$^" + MAX, Integer.MAX_VALUE);
        is("to the nearest there is", "$(^" + MIN + "*1.001)", Integer.MIN_VALUE);
        is("to the nearest there is", "$" + INFINITE, Integer.MAX_VALUE);
        is("to the nearest there is", "$(-1/0.0)", Integer.MIN_VALUE);
        is("nan 0", "$" + NAN, 0);
        is(cut, "$" + LEAST_FLOAT, 0);
        is("of a PAIR", "$[[2.5,1],7]", 2);
    }

    private static void bitsOfNan() {
        String nan = "nan 7fc00000";
        is(nan, "#" + NAN, 0x7fc00000);
        is(nan, "#(0-" + NAN + ")", 0x7fc00000);
        is(nan, "#(" + INFINITE + "-" + INFINITE + ")", 0x7fc00000);
        is(nan, "#(0*" + INFINITE + ")", 0x7fc00000);
        is(nan, "#(" + INFINITE + "/" + INFINITE + ")", 0x7fc00000);
        is("the bits of that as an INT", "#0", 0);
        is("the bits of that as an INT", "#(0*-1.0)", 0x80000000);
        is("the bits of that as an INT", "#1", 0x3f800000);
        is("the bits of that as an INT", "#-2.5", Float.floatToIntBits(-2.5f));
        is("the bits of that as an INT", "#" + INFINITE, 0x7f800000);
        is("of a PAIR", "#[1.0,9]", 0x3f800000);
    }

    private static void parts() {
        is("of a PAIR its first", "@[1.5,2]", 1.5f);
        is("of a number itself", "@1.5", 1.5f);
        is("of a number itself", "@7", 7);
        is("of a PAIR its second", "~[1.5,[2,3]]", "[2,3]");
        is("of a number INT 0", "~1.5", 0);
        is("of a number INT 0", "~7", 0);
        is("NUM of a PAIR is NUM of its first", "([[[5,1],2],3]-[2,[9,9]])", 3);
        OnlineParts x = Check.with("a(x)=[@x,~x];", "a(*)");
        x.specialise();
        String[][] due = {{"7", "[7,0]"}, {"1.5", "[f1069547520,0]"}, {"[1,2]", "[1,2]"}, {"[[1,2],3]", "[[1,2],3]"}};
        for (String[] row : due) {
            Check.values(x, row[0]);
            for (int where = 0; where < 2; where++) {
                x.run(where, 0);
                Check.due("@ ~ of " + row[0], Check.value(x), row[1]);
            }
        }
        int[][] weights = {{1, 0}, {3, 1}, {5, 2}, {7, 2}, {39, 19}};
        String[] values = {"5", "[1,2]", "[1,[2,3]]", "[[1,2],[3,4]]", "[1,".repeat(19) + "1" + "]".repeat(19)};
        for (int k = 0; k < values.length; k++) {
            OnlineParts y = Check.with(k < 4 ? "a()=" + values[k] + ";" : "a()=[1," + "b()];b()=" + "[1,".repeat(18) + "1" + "]".repeat(18) + ";");
            y.specialise();
            for (int where = 0; where < 2; where++) {
                Check.due("WEIGHT of " + values[k], y.run(where, 3), weights[k][0]);
                Check.due("DEEP of " + values[k], y.run(where, 4), weights[k][1]);
                Check.due("value() of " + values[k], Check.value(y), values[k]);
            }
        }
    }

    private static void choices() {
        String zero = "NUM of the first is not 0: the second, else the third";
        String[] tests = {"0", "0.0", "(0*-1.0)", "[0,1]", "1", "-1", "0.001", NAN, INFINITE, MIN, LEAST_FLOAT, "[1,0]"};
        for (int k = 0; k < tests.length; k++) {
            int want = k < 4 ? 3 : 2;
            is(zero, "?(" + tests[k] + ",2,3)", want);
            // the same with a number that is not known as it is WORKED
            OnlineParts x = Check.with("a(x)=?(?(x," + tests[k] + ",7),2,3);", "a(*)", "1");
            x.specialise();
            Check.due(zero + " left over " + tests[k], x.kinds(0, 6), 2);
            Check.due(zero + " left over " + tests[k], x.run(1, 0), 0);
            Check.due(zero + " left over " + tests[k], Check.value(x), "" + want);
        }
        OnlineParts x = Check.with("a(x)=?(x,[!1,&01],[!2,&12]);b(x)=?(x,1,e());c(x)=?(x,e(),2);", "a(*)");
        x.specialise();
        for (int where = 0; where < 2; where++) {
            Check.values(x, "1");
            Check.due("the other one is not worked", x.run(where, 2), 1);
            Check.due("the other one is not worked", x.output(0, 1), 1);
            Check.due("the other one is not worked", x.place(0), 1);
            Check.due("the other one is not worked", x.place(1), 0);
            Check.values(x, "0");
            Check.due("the other one is not worked", x.run(where, 2), 1);
            Check.due("the other one is not worked", x.output(0, 1), 2);
            Check.due("the other one is not worked", x.place(0), 0);
            Check.due("the other one is not worked", x.place(1), 2);
        }
        for (int v = 0; v < 2; v++) {
            for (int f = 0; f < 2; f++) {
                Check.task(x, (f == 0 ? "b" : "c") + "(*)");
                x.specialise();
                Check.values(x, "" + v);
                int want = v == f ? 4 : 0;
                Check.due("a call in the other one", x.run(0, 0), want);
                Check.due("a call in the other one", x.run(1, 0), want);
            }
        }
    }

    private static void fromTheLeft() {
        String[] rows = {"(!1+!2)", "[!1,!2]", "[[!1,!2],[!3,!4]]", "b(!1,!2,!3,!4,!5)", ":x=!1,[!2,x]", "?(!1,!2,!9)", "?(!0,!9,!1)",
            "[!1,&0!2]", "b(b(!1,!2,3,4,5),!3,4,5,6)", "![!1,2]"};
        String[] due = {"12", "12", "1234", "12345", "12", "12", "01", "12", "123", "11"};
        for (int k = 0; k < rows.length; k++) {
            OnlineParts x = Check.with("a()=" + rows[k] + ";b(m,n,o,p,q)=m;");
            x.specialise();
            for (int where = 0; where < 2; where++) {
                int n = x.run(where, 2);
                StringBuilder b = new StringBuilder();
                for (int i = 0; i < n; i++) {
                    b.append(x.output(i, 1));
                }
                Check.due("All from the left " + rows[k], b.toString(), due[k]);
            }
        }
    }

    private static void placesHold() {
        is("PLACES hold 0 at first", "[[[_0,_1],[_2,_3]],[[_4,_5],[_6,_7]]]", "[[[0,0],[0,0]],[[f0,f0],[f0,f0]]]");
        for (int d = 0; d < 8; d++) {
            String want = d < 4 ? "-2" : "f" + Float.floatToIntBits(-2.9f);
            is("0 .. 3 hold INTS (a FLOAT is cut), 4 .. 7 FLOATS", "&" + d + "-2.9", want);
            is("it is what is there then", "[&" + d + "-2.9,_" + d + "]", "[" + want + "," + want + "]");
            String three = d < 4 ? "3" : "f" + Float.floatToIntBits(3f);
            is("0 .. 3 hold INTS, 4 .. 7 FLOATS", "[&" + d + "[3,4],_" + d + "]", "[" + three + "," + three + "]");
        }
        is("to the nearest there is", "&3" + INFINITE, Integer.MAX_VALUE);
        is("nan 0", "&0" + NAN, 0);
        is("nan", "&7" + NAN, Float.NaN);
        is("an INT to the nearest", "&4(" + P24 + "+1)", 16777216f);
        OnlineParts x = Check.with("a(x)=?(x,[&05,&71.5],[_0,_7]);", "a(*)", "1");
        x.specialise();
        for (int where = 0; where < 2; where++) {
            Check.values(x, "1");
            x.run(where, 0);
            Check.due("place(0)", x.place(0), 5);
            Check.due("place(7)", x.place(7), Float.floatToIntBits(1.5f));
            Check.values(x, "0");
            x.run(where, 0);
            Check.due("PLACES are those at first in each RUN", Check.value(x), "[0,f0]");
            Check.due("PLACES are those at first in each RUN", x.place(0), 0);
            Check.due("PLACES are those at first in each RUN", x.place(7), 0);
        }
    }

    /** b() takes itself and 30 of d(), so that a() takes 1 + 3 * 31 = 94 and what is in the hole. */
    private static String calls(String hole) {
        return "c(x)=x;d()=1;b()=" + Check.sum("d()", 30) + ";a()=((b()+(b()+b()))+" + hole + ");";
    }

    private static void tooManyCalls() {
        for (int where = 0; where < 2; where++) {
            String sum = "a 101st call would be";
            OnlineParts x = Check.with(calls(Check.sum("c(!7)", 5)), "a()");
            x.set(0, 0);
            x.specialise();
            Check.due("99 calls", x.run(where, 0), 0);
            Check.due("99 calls", x.run(where, 1), 99);
            Check.program(x, calls(Check.sum("c(!7)", 6)));
            x.specialise();
            Check.due("100 calls", x.run(where, 0), 0);
            Check.due("100 calls", x.run(where, 1), 100);
            Check.due("100 calls", x.run(where, 3), 1);
            Check.program(x, calls(Check.sum("c(!7)", 7)));
            x.specialise();
            Check.due(sum, x.run(where, 0), 1);
            Check.due("it isn't counted", x.run(where, 1), 100);
            Check.due("its arguments being worked", x.run(where, 2), 7);
            Check.due("not DONE: WEIGHT", x.run(where, 3), 0);
            Check.due("not DONE: DEEP", x.run(where, 4), 0);
            Check.due("under way", x.run(where, 5), 3);
            Check.due("alike", x.agree(), 1);
            Check.due("isn't DONE", x.saved(), -1000);
        }
    }

    private static void tooDeep() {
        for (int where = 0; where < 2; where++) {
            OnlineParts x = Check.with("a(x)=?(x,[a((!x-1)),1],&07);b(x)=?(x,b(b((x-1))),0);", "a(*)");
            x.set(0, 0);
            x.specialise();
            int[][] due = {{18, 0, 19, 19}, {29, 2, 30, 30}, {30, 3, 30, 30}, {31, 3, 30, 30}};
            for (int[] row : due) {
                Check.values(x, "" + row[0]);
                Check.due("in one another: " + row[0], x.run(where, 0), row[1]);
                Check.due("calls", x.run(where, 1), row[2]);
                Check.due("under way at once at most", x.run(where, 5), row[3]);
            }
            Check.due("its arguments being worked", x.run(where, 2), 30);
            Check.due("what it wrote last", x.output(29, 1), 2);
            Check.due("not DONE: WEIGHT", x.run(where, 3), 0);
            Check.due("not DONE: DEEP", x.run(where, 4), 0);
        }
        OnlineParts x = Check.with("a(x)=?(x,a((x-1)),7);b(x)=(x+1);c()=b(b(b(b(1))));", "a(*)");
        x.specialise();
        for (int where = 0; where < 2; where++) {
            Check.values(x, "28");
            Check.due("lies in 28 others", x.run(where, 0), 0);
            Check.due("lies in 28 others", x.run(where, 5), 29);
            Check.values(x, "29");
            Check.due("lies in 29 others", x.run(where, 0), 0);
            Check.due("lies in 29 others", x.run(where, 5), 30);
            Check.due("a call would lie in 30 others", Check.values(x, "30"), 1);
            Check.due("a call would lie in 30 others", x.run(where, 0), 3);
        }
        Check.task(x, "c()");
        x.set(0, 0);
        x.specialise();
        for (int where = 0; where < 2; where++) {
            Check.due("an argument's call doesn't lie in the call", x.run(where, 5), 2);
            Check.due("an argument's call doesn't lie in the call", x.run(where, 1), 5);
        }
    }

    private static void tooHeavy() {
        // the VALUE of a leaf is put into 18 PAIRS more
        OnlineParts x = Check.with("a(x)=" + "[".repeat(18) + "!x" + ",1]".repeat(18) + ";", "a(*)");
        x.specialise();
        for (int where = 0; where < 2; where++) {
            Check.values(x, "1");
            Check.due("WEIGHT 37", x.run(where, 3), 37);
            Check.values(x, "[1,2]");
            Check.due("WEIGHT 39", x.run(where, 0), 0);
            Check.due("WEIGHT 39", x.run(where, 3), 39);
            Check.due("DEEP 19", x.run(where, 4), 19);
            Check.values(x, "[1,[2,3]]");
            Check.due("a PAIR of WEIGHT above 40 would be: 41", x.run(where, 0), 2);
            Check.due("calls", x.run(where, 1), 1);
            Check.due("WRITTEN", x.run(where, 2), 1);
            Check.due("not DONE: WEIGHT", x.run(where, 3), 0);
            Check.due("not DONE: DEEP", x.run(where, 4), 0);
            Check.due("the VALUE of the latest that was DONE", x.value(), 18 * 4 + "[1,2]".length());
        }
        // both parts count
        x = Check.with("a(x,y)=[x,y];", "a(*,*)");
        x.specialise();
        for (int where = 0; where < 2; where++) {
            Check.values(x, "[[[1,2],[3,4]],[[5,6],7]],[[[1,2],[3,4]],[[5,6],7]]");
            Check.due("WEIGHT 27", x.run(where, 3), 27);
        }
    }

    /** k() takes 1 + 2 * (1 + n) calls, then 29 in one another, and in the last of these what is in the hole. */
    private static String deepAndMany(int n, String hole) {
        return "d()=1;g()=" + Check.sum("d()", n) + ";k()=((g()+g())+a(28));a(x)=?(x,a((x-1))," + hole + ");";
    }

    private static void whichEndIsFirst() {
        int[][] due = {{34, 1, 100}, {33, 3, 98}};
        for (int[] row : due) {
            OnlineParts x = Check.with(deepAndMany(row[0], "d()"), "k()");
            x.set(0, 0);
            x.set(1, 6);
            x.specialise();
            Check.due("1 ahead of 3", x.run(0, 0), row[1]);
            Check.due("1 ahead of 3", x.run(0, 1), row[2]);
            Check.due("1 ahead of 3", x.run(0, 5), 30);
            Check.due("1 ahead of 3, the RESIDUE", x.run(1, 0), row[1]);
            Check.due("1 ahead of 3, the RESIDUE", x.run(1, 1), row[2]);
            Check.program(x, deepAndMany(row[0], "e(!5)"));
            x.specialise();
            for (int where = 0; where < 2; where++) {
                Check.due("4 is asked ahead of 1 and 3", x.run(where, 0), 4);
                Check.due("4 is asked ahead of 1 and 3", x.run(where, 1), row[2]);
                Check.due("its arguments being worked", x.output(0, 1), 5);
            }
        }
        OnlineParts x = Check.with("a()=1;", "a(*)", "7");
        Check.due("that which is told is not told", x.run(0, 0), 4);
        Check.due("it doesn't begin", x.run(0, 1), 0);
        Check.due("it doesn't begin", x.run(0, 5), 0);
        Check.task(x, "a()");
        Check.due("that which is told counts, too", x.run(0, 1), 1);
        Check.due("that which is told counts, too", x.run(0, 5), 1);
        x.specialise();
        Check.due("that of VARIANT 0, too", x.run(1, 1), 1);
        Check.due("that of VARIANT 0, too", x.run(1, 5), 1);
    }

    private static void outputsKept() {
        for (int n = 59; n <= 62; n++) {
            // 3 * 18 = 54 by b, the rest by a
            OnlineParts x = Check.with("b(x)=" + "!".repeat(18) + "x;a()=[(b(1)+(b(2)+b(3)))," + "!".repeat(n - 55) + "9.5];c()=[a(),!4.5];", "c()");
            x.specialise();
            for (int where = 0; where < 2; where++) {
                Check.due("all are counted", x.run(where, 2), n);
                Check.due("the last one of b", x.output(53, 1), 3);
                Check.due("the 59th", x.output(58, 0), 1);
                Check.due("the 60th", x.output(59, 0), n >= 60 ? 1 : -1);
                int sixtieth = Float.floatToIntBits(n == 60 ? 4.5f : 9.5f);
                Check.due("the 60th", x.output(59, 1), n >= 60 ? sixtieth : -1);
                Check.due("the first 60 numbers are kept", x.output(60, 0), -1);
                Check.due("the first 60 numbers are kept", x.output(60, 1), -1);
                Check.due("ahead of the first", x.output(-1, 0), -1);
                Check.due("whether it is a FLOAT: no", x.output(0, 0), 0);
                Check.due("no such what", x.output(0, -1), -1);
                Check.due("no such what", x.output(0, 2), -1);
            }
        }
    }

    private static void heavyTask() {
        // the argument weighs 35 and what the leaf weighs
        String part = "[[[1,1],[1,1]],[[1,1],[1,1]]]";
        String in = "[[*," + part + "],[1,[1,1]]]";
        int[][] due = {{15, 37, 0}, {17, 39, 0}, {19, 0, 2}};
        String[] leaves = {part, "[1," + part + "]", "[1,[1," + part + "]]"};
        for (int k = 0; k < 3; k++) {
            OnlineParts x = Check.with("a(x)=x;b(x,y)=1;c(x)=(!1+&05);", "a(" + in + ")", leaves[k]);
            Check.due("an argument of WEIGHT " + (22 + due[k][0]), x.run(0, 0), due[k][2]);
            Check.due("an argument of WEIGHT " + (22 + due[k][0]), x.run(0, 3), due[k][1]);
            Check.due("at once", x.run(0, 1), due[k][2] == 2 ? 0 : 1);
            Check.due("at once", x.run(0, 5), due[k][2] == 2 ? 0 : 1);
            Check.task(x, "b(1," + in + ")");
            Check.values(x, leaves[k]);
            Check.due("an argument of whatever place", x.run(0, 0), due[k][2]);
            Check.task(x, "c(" + in + ")");
            Check.values(x, leaves[k]);
            Check.due("at once", x.run(0, 2), due[k][2] == 2 ? 0 : 1);
            Check.due("at once", x.place(0), due[k][2] == 2 ? 0 : 5);
            x.specialise();
            Check.due("a RUN of the RESIDUE doesn't ask", x.run(1, 0), 0);
            Check.due("they don't agree", x.agree(), due[k][2] == 2 ? 0 : 1);
            Check.task(x, "k(" + in + ")");
            Check.values(x, leaves[k]);
            Check.due("at once, ahead of 4", x.run(0, 0), due[k][2] == 2 ? 2 : 4);
        }
    }

    /** Promises 16 to 18, 20: of the latest run() that was one. */
    private static void latestRun() {
        OnlineParts x = new OnlineParts();
        Check.due("ahead of any", x.output(0, 0), -1);
        Check.due("ahead of any", x.place(0), 0);
        Check.due("ahead of any", x.value(), -1);
        Check.due("ahead of any", x.octet(0), -1);
        Check.program(x, "a(x)=[!x,&0x];b(x)=(!!&1x+e());");
        Check.task(x, "a(*)");
        Check.due("none: VALUES not told", x.run(0, 0), -1);
        Check.due("none yet", x.value(), -1);
        Check.values(x, "7");
        Check.due("none: no RESIDUE", x.run(1, 0), -1);
        Check.due("none yet", x.value(), -1);
        Check.due("none: where", x.run(-1, 0) + x.run(2, 0), -2);
        Check.due("none: what", x.run(0, -1) + x.run(0, 6), -2);
        Check.due("none yet", x.value(), -1);
        Check.due("one", x.run(0, 0), 0);
        keeps(x);
        x.specialise();
        x.agree();
        x.saved();
        x.run(1, 6);
        x.run(2, 0);
        x.run(-1, 0);
        x.run(0, -1);
        keeps(x);
        Check.task(x, "b(*)");
        Check.due("none: VALUES not told", x.run(0, 0), -1);
        keeps(x);
        x.specialise();
        Check.due("none: VALUES not told", x.run(1, 0), -1);
        keeps(x);
        Check.values(x, "8");
        x.agree();
        x.saved();
        keeps(x);
        Check.program(x, "");
        keeps(x);
        Check.program(x, "b(x)=(!!&1x+e());");
        Check.due("one that isn't DONE", x.run(0, 0), 4);
        Check.due("its OUTPUT", x.output(1, 1), 8);
        Check.due("its PLACES", x.place(1), 8);
        Check.due("its PLACES", x.place(0), 0);
        Check.due("the VALUE of the latest that was DONE", Check.value(x), "[7,7]");
        for (int d : new int[] {-1, 8, Integer.MIN_VALUE, Integer.MAX_VALUE}) {
            Check.due("place(" + d + ")", x.place(d), 0);
        }
        for (int k : new int[] {-1, 5, Integer.MIN_VALUE, Integer.MAX_VALUE}) {
            Check.due("octet(" + k + ")", x.octet(k), -1);
        }
        Check.due("octet(4)", x.octet(4), ']');
        Check.due("write(0) of none", x.write(0), -1);
        Check.due("what was written latest", x.octet(4), ']');
    }

    private static void keeps(OnlineParts x) {
        Check.due("OUTPUT", x.output(0, 1), 7);
        Check.due("OUTPUT", x.output(1, 1), -1);
        Check.due("PLACE", x.place(0), 7);
        Check.due("PLACE", x.place(1), 0);
        Check.due("VALUE", Check.value(x), "[7,7]");
    }

    /** Promises 21, 22. */
    private static void agreeing() {
        OnlineParts x = Check.with("a(x)=?(x,a((x-1)),7);", "a(*)");
        Check.due("no RESIDUE, no VALUES", x.agree(), -1);
        Check.due("no RESIDUE, no VALUES", x.saved(), -1000);
        Check.values(x, "29");
        Check.due("no RESIDUE", x.agree(), -1);
        Check.due("no RESIDUE", x.saved(), -1000);
        x.specialise();
        Check.due("both", x.agree(), 1);
        Check.due("none less", x.saved(), 0);
        Check.values(x, "30");
        Check.due("both end by 3", x.agree(), 1);
        Check.due("isn't DONE", x.saved(), -1000);
        Check.task(x, "a(6)");
        x.specialise();
        Check.due("no LEAVES: no VALUES are asked", x.agree(), 1);
        Check.due("7 calls, 1 call", x.saved(), 6);
        Check.task(x, "a(*)");
        x.specialise();
        Check.due("VALUES not told", x.agree(), -1);
        Check.due("VALUES not told", x.saved(), -1000);
        // not the end, but WEIGHT: the RESIDUE never makes the PAIR
        x = Check.with("a(x)=[@[1,[x,x]],!2];", "a(*)");
        x.specialise();
        String heavy = "[[[1,1],[1,1]],[[1,1],[1,1]]]";
        Check.values(x, heavy);
        Check.due("both DONE", x.agree(), 1);
        Check.values(x, "[" + heavy + ",[1,1]]");
        Check.due("one ends by 2", x.agree(), 0);
        Check.due("one isn't DONE", x.saved(), -1000);
        x = Check.with("a(x)=(@[1,[x,x]]+e());", "a(*)", "[" + heavy + ",[1,1]]");
        x.specialise();
        Check.due("one ends by 2", x.run(0, 0), 2);
        Check.due("the other by 4", x.run(1, 0), 4);
        Check.due("neither DONE, unlike ends", x.agree(), 0);
        // PLACES: the RESIDUE, UNROLLED, comes further ahead of its end by 3
        for (int d = 0; d < 8; d++) {
            x = Check.with("a(x)=(&" + d + "(_" + d + "+1)+a(x));", "a(*)", "1");
            x.set(0, 0);
            x.specialise();
            Check.due("like PLACES", x.agree(), 1);
            x.set(0, 1);
            x.specialise();
            Check.due("like ends", x.run(0, 0) * 10 + x.run(1, 0), 33);
            Check.due("unlike PLACES", x.agree(), 0);
        }
        // OUTPUTS likewise
        x = Check.with("a(x)=(!7+a(x));", "a(*)", "1");
        x.set(0, 0);
        x.specialise();
        Check.due("like OUTPUTS", x.agree(), 1);
        x.set(0, 1);
        x.specialise();
        Check.due("unlike OUTPUTS", x.agree(), 0);
        // OUTPUTS: 60 are kept of each, of those behind one has more
        String many = Check.sum("!".repeat(14) + "1", 4);
        x = Check.with("a(x)=((" + many + "+!!!1)+b(x));b(x)=(!!5+b(x));", "a(*)", "1");
        x.set(0, 0);
        x.specialise();
        Check.due("both too deep, alike", x.agree(), 1);
        x.set(0, 1);
        x.specialise();
        Check.due("numbers WRITTEN", x.run(0, 2) == x.run(1, 2) ? 1 : 0, 0);
        Check.due("all kept are alike", x.agree(), 1);
    }
}
