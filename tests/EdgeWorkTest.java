/**
 * The edges that the document names for SPECIALISING ("Terms" III; promises 8, 11 to 14, 19): at the
 * edge, one below and one above it.
 */
final class EdgeWorkTest {
    private static final String MAX = "((32767*65536)+65535)";
    private static final String MIN = "(-32768*65536)";
    private static final String NAN = "(0/0.0)";
    private static final String INFINITE = "(1/0.0)";
    private static final String P24 = "(4096*4096)";

    public static void main(String[] args) {
        tooMuchCode();
        fullOfOneKind();
        fullRooms();
        tooMuchUnrolled();
        tooManyVariants();
        tooHeavy();
        notTold();
        whichBreakIsFirst();
        unrollEdges();
        unrolledOutsideOfBlocks();
        grownSizes();
        grownParts();
        grownAncestors();
        variantEdges();
        budgetEdges();
        starEdges();
        sameVariant();
        registers();
        lifts();
        blocksWithOneEnd();
        knownAndNot();
        textOfNumbers();
        countsOfTheResidue();
        aboutTheResidue();
        Check.close("EdgeWorkTest");
    }

    /** n OUTS in an E of a(), by calls of b() that are UNROLLED: 16 of 18, the rest by itself (12 at most). */
    private static String code(int n, String behind) {
        int rest = n - 16 * 18;
        return "b()=" + "!".repeat(18) + "1;g()=h();h()=1;a(x)=:y=" + Check.sum("b()", 16) + ",:z=" + "!".repeat(rest) + "1," + behind + ";";
    }

    private static void tooMuchCode() {
        String[] one = {"(x+1)", "$x", "^x", "#x", "@x", "~x", "?(x,1,2)", "!1", "&01", "_0", "[1,x]", "g()", "k()"};
        int[] kinds = {0, 1, 2, 3, 4, 5, 6, 7, 8, 9, 10, 11, 12};
        for (int k = 0; k < one.length; k++) {
            OnlineParts x = Check.with(code(299, one[k]), "a(*)");
            x.set(0, 1);
            Check.due("300 INSTRUCTIONS, the last of kind " + k, x.specialise(), k == 11 ? 2 : 1);
            Check.due("300 INSTRUCTIONS", x.residue(1), 300);
            Check.due("the last of kind " + k, x.kinds(0, kinds[k]), k == 7 ? 300 : 1);
            Check.program(x, code(300, one[k]));
            Check.due("a 301st INSTRUCTION would be, of kind " + k, x.specialise(), -2);
            Check.due("there is no RESIDUE", x.residue(0), -1);
            Check.due("there is no RESIDUE", x.variant(0, 0), -1);
            Check.due("there is no RESIDUE", x.kinds(0, 7), -1);
            Check.due("there is no RESIDUE", x.write(0), -1);
        }
        OnlineParts x = Check.with(code(300, "7"), "a(*)");
        Check.due("300 INSTRUCTIONS and a number", x.specialise(), 1);
        // those in BLOCKS count, too, and the 6 behind them
        Check.program(x, code(298, "?(x,!1,2)"));
        Check.due("300 with a BLOCK", x.specialise(), 1);
        Check.due("300 with a BLOCK", x.residue(1), 300);
        Check.program(x, code(298, "?(x,!1,!2)"));
        Check.due("301 with two BLOCKS", x.specialise(), -2);
        Check.program(x, code(299, "?(x,!1,2)"));
        Check.due("301 with a BLOCK", x.specialise(), -2);
        // each LIFT at the end of a BLOCK
        Check.program(x, code(297, "?(x,[1,2],[3,4])"));
        Check.due("300 with LIFTS", x.specialise(), 1);
        Check.program(x, code(298, "?(x,[1,2],[3,4])"));
        Check.due("301 with LIFTS", x.specialise(), -2);
        // of all VARIANTS: the one called has the last two
        x.set(0, 1);
        Check.program(x, code(297, "g()").replace("h()=1;", "h()=!!1;"));
        Check.due("300 of two VARIANTS", x.specialise(), 2);
        Check.due("300 of two VARIANTS", x.residue(1), 300);
        Check.due("300 of two VARIANTS", x.variant(1, 3), 2);
        Check.program(x, code(298, "g()").replace("h()=1;", "h()=!!1;"));
        Check.due("301 of two VARIANTS", x.specialise(), -2);
    }

    /** 300 INSTRUCTIONS of one kind, each of what the one ahead is: THE TEXT is whole, and they agree. */
    private static void fullOfOneKind() {
        String[] opens = {"(", "$", "^", "#", "@", "~", "?(", "!", "&0"};
        String[] closes = {"+1)", "", "", "", "", "", ",1,2)", "", ""};
        String[] signs = {"(", "$", "^", "#", "@", "~", "?", "!", "&0"};
        String[] ends = {"+1)", "", "", "", "", "", "{1}{2}", "", ""};
        for (int kind = 0; kind < opens.length; kind++) {
            String program = "b(x)=" + opens[kind].repeat(15) + "x" + closes[kind].repeat(15)
                + ";c(x)=b(b(b(b(b(x)))));a(x)=c(c(c(c(x))));";
            OnlineParts x = Check.with(program, "a(*)", "5");
            Check.due("300 of kind " + kind, x.specialise(), 1);
            Check.due("300 of kind " + kind, x.residue(1), 300);
            Check.due("300 of kind " + kind, x.kinds(0, kind), 300);
            Check.due("300 of kind " + kind, x.variant(0, 3), 300);
            Check.due("its REGISTERS", x.variant(0, 1), kind == 7 ? 1 : 301);
            Check.due("they agree", x.agree(), 1);
            Check.due("25 calls, 1 call", x.saved(), 24);
            StringBuilder want = new StringBuilder("a(*)=");
            for (int k = 1; k <= 300; k++) {
                String row = kind == 7 ? "!r0" : "r" + k + "=" + signs[kind] + "r" + (k - 1) + ends[kind];
                want.append(row).append(';');
            }
            want.append(kind == 7 ? "r0;" : "r300;");
            Check.due("THE TEXT of kind " + kind, Check.longText(program, "a(*)", 6, 0), want.toString());
        }
    }

    /** As many REGISTERS and PAIRS as may be, in as many calls as may be. */
    private static void fullRooms() {
        // 300 REGISTERS, 30 calls in one another: y is x and 7, the VALUE is the sum of 7 to 36
        OnlineParts x = Check.with("b(x)=" + "$".repeat(14) + "x;c(x)=b(b(b(b(b(x)))));a(x)=:y=b(c(c(c(c((x+7)))))),?(x,(a((x-1))+y),y);",
            "a(*)", "29");
        Check.due("30 calls of many REGISTERS", x.specialise(), 1);
        Check.due("its REGISTERS", x.variant(0, 1), 300);
        Check.due("30 in one another", x.run(1, 0), 0);
        Check.due("30 in one another", x.run(1, 5), 30);
        Check.due("the sum", Check.value(x), "645");
        // 234 PAIRS in each of 81 calls; NUM of each PAIR is x
        x = Check.with("b(x)=?(_0,0," + "[".repeat(18) + "x" + ",1]".repeat(18) + ");"
            + "a(x)=(" + Check.sum("b(x)", 13) + "+?((x<1),0,(a((x-1))+a((x-3)))));", "a(*)", "9");
        Check.due("81 calls of many PAIRS", x.specialise(), 1);
        Check.due("its PAIRS", x.residue(6), 234);
        Check.due("81 calls", x.run(1, 1), 81);
        Check.due("the sum", Check.value(x), "" + thirteenTimes(9));
        // 19 ? in one another in each of 13 calls, all of known numbers; 19 IFS in each of 30 calls
        x = Check.with("a()=" + "?(1,".repeat(19) + "a()" + ",0)".repeat(19) + ";b()=" + "?(_0,1,".repeat(19) + "b()" + ")".repeat(19) + ";", "a()");
        x.set(0, 12);
        Check.texts(x, "? in one another", "a()=r0=c0();r0;");
        Check.due("12 UNROLLED", x.residue(2), 12);
        Check.task(x, "b()");
        Check.due("IFS in one another", x.specialise(), 1);
        Check.due("IFS in one another", x.residue(7), 19);
        Check.due("IFS in one another", x.run(1, 0), 3);
        Check.due("IFS in one another", x.run(1, 1), 30);
        Check.due("IFS in one another", x.agree(), 1);
        // a call of eight *, and with what stands at each
        x = Check.with("a(m,n,o,p,q)=?(m,b([n,m],[p,o],[[1,q],m],[n,q]),0);"
            + "b(m,n,o,p)=[[[@m,~m],[@n,~n]],[[~@o,~o],[@p,~p]]];", "a(*,*,*,*,*)", "1,2,3,4,5");
        Check.due("eight *", x.specialise(), 2);
        Check.due("eight *", x.variant(1, 2), 8);
        x.run(1, 0);
        Check.due("from the left", Check.value(x), "[[[2,1],[4,3]],[[5,1],[2,5]]]");
        Check.due("they agree", x.agree(), 1);
    }

    private static int thirteenTimes(int n) {
        return 13 * n + (n < 1 ? 0 : thirteenTimes(n - 1) + thirteenTimes(n - 3));
    }

    private static void tooMuchUnrolled() {
        String program = "d()=1;b()=" + Check.sum("d()", 24) + ";";
        OnlineParts x = Check.with(program + "a()=" + Check.sum("b()", 8) + ";", "a()");
        Check.due("200 UNROLLED", x.specialise(), 1);
        Check.due("200 UNROLLED", x.residue(2), 200);
        Check.program(x, program + "a()=(" + Check.sum("b()", 7) + "+" + Check.sum("d()", 24) + ");");
        Check.due("199 UNROLLED", x.specialise(), 1);
        Check.due("199 UNROLLED", x.residue(2), 199);
        Check.program(x, program + "a()=(" + Check.sum("b()", 8) + "+d());");
        Check.due("a 201st call would be UNROLLED", x.specialise(), -3);
        Check.due("there is no RESIDUE", x.residue(2), -1);
        // one that is left, or not told, is none
        Check.program(x, program + "a()=(" + Check.sum("b()", 8) + "+?(_0,d(),1));");
        Check.due("200 and one left", x.specialise(), 2);
        Check.due("200 and one left", x.residue(2), 200);
        Check.program(x, program + "a()=(" + Check.sum("b()", 8) + "+e());");
        Check.due("200 and one not told", x.specialise(), 1);
        // of all VARIANTS
        Check.program(x, program + "c()=(b()+(b()+(b()+b())));a()=(" + Check.sum("b()", 4) + "+?(_0,c(),1));");
        Check.due("100 in each of two VARIANTS", x.specialise(), 2);
        Check.due("100 in each of two VARIANTS", x.residue(2), 200);
        Check.program(x, program + "c()=(b()+(b()+(b()+(b()+d()))));a()=(" + Check.sum("b()", 4) + "+?(_0,c(),1));");
        Check.due("100 and 101", x.specialise(), -3);
    }

    /** Calls of n VARIANTS: of b, c, d, e by six numbers each. */
    private static String variants(int n) {
        StringBuilder b = new StringBuilder("b(x)=x;c(x)=x;d(x)=x;e(x)=x;a()=");
        return b.append(callsFrom(0, n)).append(';').toString();
    }

    private static String callsFrom(int from, int n) {
        if (n == 1) {
            return (char) ('b' + from / 6) + "(" + from % 6 + ")";
        }
        return "(" + callsFrom(from, n / 2) + "+" + callsFrom(from + n / 2, n - n / 2) + ")";
    }

    private static void tooManyVariants() {
        for (int n = 22; n <= 24; n++) {
            OnlineParts x = Check.with(variants(n), "a()");
            x.set(0, 0);
            x.set(1, 6);
            Check.due("VARIANTS: " + (n + 1), x.specialise(), n <= 23 ? n + 1 : -4);
            Check.due("residue(0)", x.residue(0), n <= 23 ? n + 1 : -1);
            Check.due("variant 23", x.variant(23, 0), n == 23 ? 5 : -1);
            Check.due("variant 24", x.variant(24, 0), -1);
            Check.due("they agree", x.agree(), n <= 23 ? 1 : -1);
        }
        OnlineParts x = Check.with(variants(23).replace("a()=", "a()=(b(5)+").replace("));", ")));"), "a()");
        x.set(0, 0);
        x.set(1, 6);
        Check.due("one more call of one that is there", x.specialise(), 24);
    }

    private static void tooHeavy() {
        OnlineParts x = Check.with("a(x)=" + "[".repeat(18) + "x" + ",1]".repeat(18) + ";", "a(*)");
        Check.due("WEIGHT 37: a REGISTER is 1", x.specialise(), 1);
        Check.due("LIFTED", x.residue(6), 18);
        Check.task(x, "a([*,1])");
        Check.due("WEIGHT 39", x.specialise(), 1);
        Check.due("LIFTED", x.residue(6), 19);
        Check.task(x, "a([*,[1,*]])");
        Check.due("a SYMBOL of WEIGHT 41 would be", x.specialise(), -5);
        Check.due("there is no RESIDUE", x.residue(0), -1);
        Check.program(x, "a(x)=@" + "[".repeat(18) + "x" + ",1]".repeat(18) + ";");
        Check.due("though it is not LIFTED", x.specialise(), -5);
        Check.program(x, "a(x)=" + "[1,".repeat(18) + "x" + "]".repeat(18) + ";");
        Check.due("in its second", x.specialise(), -5);
        Check.task(x, "a([1,1])");
        Check.due("in its second", x.specialise(), 1);
        Check.program(x, "a(x)=?(1,2," + "[1,".repeat(17) + "[x,x]" + "]".repeat(17) + ");");
        Check.due("in an E that isn't WORKED", x.specialise(), 1);
    }

    private static void notTold() {
        OnlineParts x = new OnlineParts();
        Check.due("at first there is no RESIDUE", x.residue(0), -1);
        Check.due("THE TASK's function is not told", x.specialise(), -6);
        Check.program(x, "a(x)=1;b()=1;");
        Check.due("of other arguments", x.specialise(), -6);
        Check.due("there is no RESIDUE", x.residue(0), -1);
        Check.task(x, "a(1,*)");
        Check.due("of other arguments", x.specialise(), -6);
        Check.task(x, "c(*)");
        Check.due("of another letter", x.specialise(), -6);
        Check.task(x, "a(*)");
        Check.due("told", x.specialise(), 1);
    }

    private static void whichBreakIsFirst() {
        // in the order of the work: the PAIR comes ahead of the 301st INSTRUCTION, or behind it
        String heavy = "e()=" + "[".repeat(17) + "[1,1]" + ",1]".repeat(17) + ";";
        String heavier = heavy.replace("[1,1]", "[[1,1],[1,1]]");
        OnlineParts x = Check.with(heavier + code(299, "(e()+[!1,!1])"), "a(*)");
        Check.due("the PAIR is ahead", x.specialise(), -5);
        Check.program(x, heavier + code(299, "([!1,!1]+e())"));
        Check.due("the 301st is ahead", x.specialise(), -2);
        Check.program(x, heavy + code(299, "(e()+[!1,!1])"));
        Check.due("the PAIR is not too heavy", x.specialise(), -2);
        // a new VARIANT comes ahead of the LIFTS of its call, and these ahead of the call
        x = Check.with("a(x)=b([x,1]);b(x)=c(x);c(x)=~x;", "a(*)");
        x.set(0, 1);
        x.set(2, 10);
        Check.texts(x, "PATTERN [*,1]", "a(*)=r1=c1(r0);r1;", "c([*,1])=1;");
        Check.program(x, "a(x)=b([!!!!!!!!!!x,1]);b(x)=c(x);c(x)=~x;");
        Check.texts(x, "LIFTED ahead of the call", "a(*)=" + "!r0;".repeat(10) + "r1=[r0,1];r2=c1(r1);r2;", "c(*)=r1=~r0;r1;");
    }

    private static void unrollEdges() {
        for (int unroll = 0; unroll <= 12; unroll++) {
            OnlineParts x = Check.with("a(x)=a((x+1));", "a(*)");
            Check.due("set", x.set(0, unroll) ? 1 : 0, 1);
            Check.due("one VARIANT that calls itself", x.specialise(), 1);
            Check.due("in fewer than UNROLL calls: " + unroll, x.residue(2), unroll);
            Check.due("else 11", x.residue(3), 1);
            Check.due("one + for each", x.residue(1), unroll + 2);
        }
        // one behind the other is not one in the other
        OnlineParts x = Check.with("a(x)=b(b(b(b(x))));b(x)=(x+1);", "a(*)");
        x.set(0, 1);
        Check.texts(x, "arguments don't lie in the call", "a(*)=r1=(r0+1);r2=(r1+1);r3=(r2+1);r4=(r3+1);r4;");
        // a known number: 13 calls in one another are 12 UNROLLED, and one left
        x = Check.with("a(x,y)=?(x,a((x-1),y),y);", "a(12,*)");
        x.set(0, 12);
        Check.texts(x, "12 in one another", "a(12,*)=r0;");
        Check.task(x, "a(13,*)");
        Check.texts(x, "13 in one another", "a(13,*)=r1=c1(r0);r1;", "a(0,*)=r0;");
        Check.due("12 UNROLLED", x.residue(2), 12);
        // in each VARIANT by itself
        x = Check.with("a(x)=b(x);b(x)=c(x);c(x)=d(x);d(x)=e(x);e(x)=(x+1);", "a(*)");
        x.set(0, 1);
        Check.texts(x, "in each VARIANT by itself", "a(*)=r1=c1(r0);r1;", "c(*)=r1=c2(r0);r1;", "e(*)=r1=(r0+1);r1;");
        Check.due("UNROLLED, of all", x.residue(2), 2);
    }

    private static void unrolledOutsideOfBlocks() {
        OnlineParts x = Check.with("b(x)=(x+1);a(x)=?(x,b(x),0);", "a(*)");
        Check.texts(x, "in the first BLOCK", "a(*)=r2=?r0{r1=c1(r0);r1}{0};r2;", "b(*)=r1=(r0+1);r1;");
        Check.program(x, "b(x)=(x+1);a(x)=?(x,0,b(x));");
        Check.texts(x, "in the second BLOCK", "a(*)=r2=?r0{0}{r1=c1(r0);r1};r2;", "b(*)=r1=(r0+1);r1;");
        Check.program(x, "b(x)=(x+1);a(x)=?(b(x),1,2);");
        Check.texts(x, "in what is asked", "a(*)=r1=(r0+1);r2=?r1{1}{2};r2;");
        Check.program(x, "b(x)=(x+1);a(x)=[?(x,1,2),b(x)];");
        Check.texts(x, "behind it", "a(*)=r1=?r0{1}{2};r2=(r0+1);r3=[r1,r2];r3;");
        Check.program(x, "b(x)=(x+1);a(x)=?(7,b(x),0);");
        Check.texts(x, "in a ? of a known number", "a(*)=r1=(r0+1);r1;");
        Check.program(x, "b(x)=(x+1);a(x)=?(x,?(7,b(x),1),0);");
        Check.texts(x, "in both", "a(*)=r2=?r0{r1=c1(r0);r1}{0};r2;", "b(*)=r1=(r0+1);r1;");
        Check.program(x, "b(x)=(x+1);c(x)=?(x,b(x),0);a(x)=c(x);");
        Check.texts(x, "in a BLOCK of a call that is UNROLLED", "a(*)=r2=?r0{r1=c1(r0);r1}{0};r2;", "b(*)=r1=(r0+1);r1;");
        Check.program(x, "b(x)=(x+1);c(x)=b(x);a(x)=?(x,c(x),0);");
        Check.texts(x, "a BLOCK of this VARIANT, not of another", "a(*)=r2=?r0{r1=c1(r0);r1}{0};r2;", "c(*)=r1=(r0+1);r1;");
        Check.program(x, "a(x)=?(x,k(!x),0);");
        Check.texts(x, "12 in a BLOCK", "a(*)=r2=?r0{!r0;r1=-;r1}{0};r2;");
    }

    /** A call of a by p, in a VARIANT of a by q: whether p is let go. */
    private static void grown(String p, String q, boolean letGo) {
        OnlineParts x = Check.with("b()=a(" + q + ");a(x)=a(" + p + ");", "b()");
        x.set(0, 0);
        x.set(1, 6);
        x.specialise();
        String what = p + " beside " + q;
        boolean same = x.residue(0) == 2;
        String last = Check.text(x, same ? 1 : 2);
        Check.due(what, last.startsWith("a(*)=") ? 1 : 0, letGo ? 1 : 0);
        // in the VARIANT a(*) it is let go by a(q) again
        Check.due(what + " GROWN", x.residue(8), letGo ? 2 : 0);
        Check.due(what + " no other reason", x.residue(9), 0);
    }

    private static void grownSizes() {
        grown("4", "5", false);
        grown("5", "5", false);
        grown("6", "5", true);
        grown("-4", "5", false);
        grown("-5", "5", true);
        grown("5", "-5", true);
        grown("-5", "-5", false);
        grown("4", "-5", false);
        grown("-6", "5", true);
        grown("0", "1", false);
        grown("0", "0", false);
        grown("1", "0", true);
        // of whatever kind
        grown("4.999", "5", false);
        grown("5.0", "5", true);
        grown("5.001", "5", true);
        grown("4", "4.001", false);
        grown("5", "5.0", true);
        grown("5.0", "5.0", false);
        grown("-5.0", "5.0", true);
        grown("0.0", "0", true);
        grown("0", "0.0", true);
        grown("(0*-1.0)", "0.0", true);
        // as FLOATS
        grown(P24, "(" + P24 + "+1)", true);
        grown("(" + P24 + "-1)", P24, false);
        grown(MAX, MIN, true);
        grown(MIN, MAX, true);
        grown(MIN, MIN, false);
        grown("((32767*65536)+1)", MIN, false);
        // nan isn't below
        grown(NAN, "5", true);
        grown("5", NAN, true);
        grown(NAN, NAN, false);
        grown(NAN, INFINITE, true);
        grown(INFINITE, NAN, true);
        grown(MAX, INFINITE, false);
        grown(INFINITE, MAX, true);
        grown("(-1/0.0)", INFINITE, true);
        grown(INFINITE, INFINITE, false);
    }

    /** The PATTERN of the VARIANT that a call of a(p) makes in a(q): of tasks as they may be told. */
    private static void grownTo(String p, String q, String want, int count) {
        OnlineParts x = Check.with("a(x,y)=?(y,b(" + p + ",y),0);b(x,y)=1;", "a(1,*)");
        Check.program(x, "b(x,y)=?(y,b(" + p + ",y),0);");
        Check.task(x, "b(" + q + ",*)");
        x.set(1, 6);
        x.specialise();
        String what = p + " beside " + q;
        String head = Check.text(x, Math.min(1, x.residue(0) - 1));
        Check.due(what, head.substring(0, head.indexOf('=')), "b(" + want + ",*)");
        Check.due(what + " GROWN", x.residue(8), count);
    }

    private static void grownParts() {
        grownTo("[1,2]", "3", "*", 2);
        grownTo("[[1,2],[3,4]]", "5", "*", 2);
        grownTo("7", "[1,2]", "7", 0);
        grownTo("[5,6]", "*", "[5,6]", 0);
        grownTo("y", "3", "*", 0);
        grownTo("[y,2]", "3", "*", 2);
        grownTo("[y,2]", "[3,3]", "[*,2]", 0);
        grownTo("[4,3]", "[3,3]", "[*,3]", 2);
        grownTo("[3,4]", "[3,3]", "[3,*]", 2);
        grownTo("[4,4]", "[3,3]", "[*,*]", 4);
        grownTo("[2,[1,1]]", "[3,3]", "[2,*]", 2);
        grownTo("[[1,1],2]", "[3,3]", "[*,2]", 2);
        grownTo("[[1,9],2]", "[[2,8],3]", "[[1,*],2]", 2);
        grownTo("[9,2]", "[*,3]", "[9,2]", 0);
        grownTo("[9,2]", "[[1,1],3]", "[9,2]", 0);
        grownTo("9", "*", "9", 0);
    }

    private static void grownAncestors() {
        // up to VARIANT 0: the one at hand lets 2 stay, VARIANT 0 lets it go
        OnlineParts x = Check.with("a(x)=?((x=1),a(0),?((x=0),a(2),9));", "a(1)");
        x.set(0, 0);
        x.set(1, 6);
        Check.due("beside 0, then beside 1", x.specialise(), 3);
        Check.due("a(0)", Check.text(x, 1).substring(0, 5), "a(0)=");
        Check.due("a(*)", Check.text(x, 2).substring(0, 5), "a(*)=");
        // below the one at hand, not below VARIANT 0
        x = Check.with("a(x)=?((x=1),b(),0);b()=c(5);c(x)=?((x=5),a(4),d());d()=1;", "a(1)");
        x.set(0, 0);
        x.set(1, 6);
        x.specialise();
        Check.due("a(4) beside a(1), three VARIANTS above", Check.text(x, 3).substring(0, 5), "a(*)=");
        Check.due("GROWN", x.residue(8) > 0 ? 1 : 0, 1);
        // by whose call it came first: b(2) by a, not by c
        x = Check.with("a()=[b(2),c(9)];c(x)=[b(2),d()];b(x)=?((x=2),e(),0);d()=1;e()=c(8);", "a()");
        x.set(0, 0);
        x.set(1, 6);
        x.specialise();
        Check.due("b(2) came first by VARIANT 0", x.variant(1, 4), 0);
        Check.due("c(9) came first by VARIANT 0", x.variant(2, 4), 0);
        Check.due("e() came first by b(2)", x.variant(3, 4), 1);
        Check.due("c(8) is not beside c(9)", x.residue(8), 0);
        Check.due("b(2) is called twice and more", x.variant(1, 5), 3);
        Check.due("VARIANT 0 came by none", x.variant(0, 4), -1);
        // of that function: of other arguments it is another
        x = Check.with("a(x)=a(x,5);a(x,y)=1;", "a(1)");
        x.set(0, 0);
        Check.due("another function", x.specialise(), 2);
        Check.due("another function", x.residue(8), 0);
    }

    private static void variantEdges() {
        for (int most = 1; most <= 6; most++) {
            OnlineParts x = Check.with("a()=[[b(0),b(1)],[[b(2),b(3)],[[b(4),b(5)],[b(6),[b(0),b(1,1)]]]]];b(x)=1;b(x,y)=2;", "a()");
            x.set(0, 0);
            x.set(1, most);
            // a, so many b of a number, b(*) and b(1,1)
            Check.due("VARIANTS " + most, x.specialise(), most + 3);
            Check.due("calls all *", x.residue(9), 7 - most);
            Check.due("the last of a number", Check.text(x, most), "b(" + (most - 1) + ")=1;");
            Check.due("all *", Check.text(x, most + 1), "b(*)=1;");
            Check.due("calls of b(*)", x.variant(most + 1, 5), 7 - most);
            Check.due("b(0) is there already", x.variant(1, 5), 2);
            Check.due("of other arguments", Check.text(x, most + 2), "b(1,1)=2;");
            Check.due("GROWN", x.residue(8), 0);
        }
        // VARIANT 0 is one of them
        OnlineParts x = Check.with("a(x)=?(x,a(3),0);", "a(*)");
        x.set(1, 1);
        Check.texts(x, "VARIANT 0 is one of them", "a(*)=r2=?r0{r1=c0(3);r1}{0};r2;");
        Check.due("calls all *", x.residue(9), 1);
        x.set(1, 2);
        Check.texts(x, "two may be", "a(*)=r2=?r0{r1=c1();r1}{0};r2;", "a(3)=r0=c1();r0;");
    }

    private static void budgetEdges() {
        for (int budget : new int[] {10, 11, 15}) {
            for (int code = budget - 1; code <= budget + 1; code++) {
                OnlineParts x = Check.with("a()=(" + "!".repeat(code) + "1+b(2));b(x)=1;", "a()");
                x.set(0, 0);
                x.set(2, budget);
                boolean over = code >= budget;
                String outs = "a()=" + "!1;".repeat(code) + "r0=c1(" + (over ? "2" : "") + ");r1=(1+r0);r1;";
                Check.texts(x, "CODE " + code + ", BUDGET " + budget, outs, over ? "b(*)=1;" : "b(2)=1;");
                Check.due("calls all *", x.residue(9), over ? 1 : 0);
            }
        }
        OnlineParts x = Check.with(code(299, "g(7)").replace("h()=1;", "g(x)=h(x);h(x)=1;"), "a(*)");
        x.set(0, 1);
        x.set(2, 300);
        Check.due("CODE 299, BUDGET 300", x.specialise(), 2);
        Check.due("CODE 299, BUDGET 300", Check.text(x, 1), "h(7)=1;");
        x.set(2, 299);
        Check.due("CODE 299, BUDGET 299", x.specialise(), 2);
        Check.due("CODE 299, BUDGET 299", Check.text(x, 1), "h(*)=1;");
        // CODE is that of all VARIANTS so far
        x = Check.with("a()=(!!!!!1+b());b()=(!!!!1+c(3));c(x)=1;", "a()");
        x.set(0, 0);
        x.set(2, 12);
        Check.due("7 of a and 4 of b", x.specialise(), 3);
        Check.due("CODE 11", Check.text(x, 2), "c(3)=1;");
        x.set(2, 11);
        x.specialise();
        Check.due("CODE 11", Check.text(x, 2), "c(*)=1;");
        // one that is there is taken, whatever CODE is; what has a * already counts, too
        x = Check.with("a()=(b(1)+(!!!!!!!!!1+(b(1)+(b(2)+b(_0)))));b(x)=1;", "a()");
        x.set(0, 0);
        x.set(2, 10);
        Check.due("b(1) is there", x.specialise(), 3);
        Check.due("b(1) is there", x.variant(1, 5), 2);
        Check.due("b(*)", x.variant(2, 5), 2);
        Check.due("b(_0) is b(*), which is there", x.residue(9), 1);
    }

    private static void starEdges() {
        String four = "[[x,y],[x,y]]";
        OnlineParts x = Check.with("a(x,y)=b(" + four + "," + "[x,[y,[x,1]]]);b(x,y)=1;", "a(*,*)");
        x.set(0, 0);
        x.specialise();
        Check.due("7 *", Check.text(x, 1), "b([[*,*],[*,*]],[*,[*,[*,1]]])=1;");
        Check.due("7 *", x.variant(1, 2), 7);
        Check.due("7 *: one number", x.variant(1, 6), 1);
        Check.due("7 *: no LIFT", x.residue(6), 0);
        Check.program(x, "a(x,y)=b(" + four + "," + "[x,[y,[x,y]]]);b(x,y)=1;");
        x.specialise();
        Check.due("8 *", Check.text(x, 1), "b([[*,*],[*,*]],[*,[*,[*,*]]])=1;");
        Check.due("8 *", x.variant(1, 2), 8);
        Check.due("8 *", x.residue(9), 0);
        Check.program(x, "a(x,y)=b(" + four + "," + "[x,[y,[x,[y,x]]]]);b(x,y)=1;");
        Check.texts(x, "more than 8 *", "a(*,*)=r2=[r0,r1];r3=[r0,r1];r4=[r2,r3];r5=[r1,r0];r6=[r0,r5];r7=[r1,r6];r8=[r0,r7];r9=c1(r4,r8);r9;",
            "b(*,*)=1;");
        Check.due("more than 8 *", x.residue(9), 1);
        // let go by what is there they are fewer
        x = Check.with("a(x,y)=a([[[x,x],[x,x]],[[x,x],[x,x]]],[x,1]);", "a(5,*)");
        x.set(0, 0);
        x.set(1, 6);
        Check.due("GROWN ahead of counting *", x.specialise(), 2 + 1);
        Check.due("GROWN ahead of counting *", Check.text(x, 1).substring(0, 10), "a(*,[5,1])");
        Check.due("9 *, but for what is let go", Check.text(x, 2).substring(0, 10), "a(*,[*,1])");
        Check.due("9 *, but for what is let go", x.residue(9), 0);
    }

    private static void sameVariant() {
        OnlineParts x = Check.with("a()=[b(1),[b(1.0),[b(1),[b(0.0),b((0*-1.0))]]]];b(x)=1;", "a()");
        x.set(0, 0);
        x.set(1, 6);
        Check.due("numbers by kind and bits", x.specialise(), 5);
        Check.due("b(1)", x.variant(1, 5), 2);
        x = Check.with("a()=[b(" + NAN + "),b((0-" + NAN + "))];b(x)=1;", "a()");
        x.set(0, 0);
        Check.due("nan is one", x.specialise(), 2);
        x = Check.with("a(x)=[b([1,2]),[b([2,1]),[b([1,x]),b([1,2])]]];b(x)=1;", "a(*)");
        x.set(0, 0);
        x.set(1, 6);
        Check.due("PAIRS by their parts", x.specialise(), 4);
        Check.due("b([1,2])", x.variant(1, 5), 2);
        x = Check.with("a(x,y)=[b([x,y],1),b(x,[y,1])];b(x,y)=1;", "a(*,*)");
        x.set(0, 0);
        Check.due("where a PAIR ends", x.specialise(), 3);
    }

    private static void registers() {
        OnlineParts x = Check.with("a(m,n,o,p,q)=([m,n]+([o,p]+q));", "a([*,*],[*,*],*,*,[*,*])");
        Check.texts(x, "numbered from that of the LEAVES on", "a([*,*],[*,*],*,*,[*,*])=r8=(r4+r6);r9=(r0+r8);r9;");
        Check.due("REGISTERS", x.variant(0, 1), 10);
        Check.due("of these its PATTERN's *", x.variant(0, 2), 8);
        Check.task(x, "a(1,2,3,4,5)");
        Check.texts(x, "no LEAVES", "a(1,2,3,4,5)=9;");
        Check.due("REGISTERS", x.variant(0, 1), 0);
        Check.due("known numbers", x.variant(0, 6), 5);
        x = Check.with("a(x)=?(x,[_0,!1],?(_1,_2,_3));", "a(*)");
        Check.texts(x, "first BLOCK, second, its own behind both", "a(*)=r7=?r0{r1=_0;!1;r2=[r1,1];r2}{r3=_1;r6=?r3{r4=_2;r4}{r5=_3;r5};r6};r7;");
        Check.due("REGISTERS", x.variant(0, 1), 8);
        Check.due("INSTRUCTIONS, the OUT without one", x.variant(0, 3), 8);
    }

    private static void lifts() {
        OnlineParts x = Check.with("a(x)=[[x,1],[2,[x,x]]];", "a(*)");
        Check.texts(x, "its first LIFTED ahead, then its second", "a(*)=r1=[r0,1];r2=[r0,r0];r3=[2,r2];r4=[r1,r3];r4;");
        Check.program(x, "a(x)=:y=[x,1],[y,y];");
        Check.texts(x, "each time", "a(*)=r1=[r0,1];r2=[r0,1];r3=[r1,r2];r3;");
        Check.program(x, "a(x)=@[[1,2],x];");
        Check.texts(x, "known numbers, too", "a(*)=r1=[1,2];r1;");
        Check.program(x, "a(x)=~[[1,2],x];");
        Check.texts(x, "a REGISTER is as it is", "a(*)=r0;");
    }

    private static void ends(String first, String second, String want) {
        OnlineParts x = Check.with("a(x)=?(x," + first + "," + second + ");", "a(*)");
        x.specialise();
        String text = Check.text(x, 0);
        String end = text.substring(text.lastIndexOf("};") + 2, text.length() - 1);
        Check.due("BLOCKS that end with " + first + " and " + second, end, want);
        Check.due("INSTRUCTION 6 is there", x.kinds(0, 6), 1);
        String own = text.substring(text.indexOf(")=") + 2, text.indexOf("=?"));
        Check.due("it has its REGISTER", own, "r" + (x.variant(0, 1) - 1));
    }

    private static void blocksWithOneEnd() {
        ends("7", "7", "7");
        ends("7", "8", "r1");
        ends("7", "7.0", "r1");
        ends("7.0", "7.0", "f1088421888");
        ends("0.0", "(0*-1.0)", "r1");
        ends("(0*-1.0)", "(0*-1.0)", "f-2147483648");
        ends(NAN, NAN, "f2143289344");
        ends(NAN, "(0-" + NAN + ")", "f2143289344");
        ends("0", "0.0", "r1");
        ends("#1.0", "1.0", "r1");
        ends("x", "x", "r1");
        ends("x", "7", "r1");
        ends("7", "x", "r1");
        ends("[1,2]", "[1,2]", "r3");
        ends("[1,2]", "1", "r2");
        ends("_0", "_0", "r3");
        ends("!7", "7", "7");
        ends("&07", "&07.5", "7");
    }

    private static void knownAndNot() {
        OnlineParts x = Check.with("a(x,y)=[($x+^y),[#x,[@y,~y]]];", "a(2.5,-3)");
        Check.texts(x, "all NUMS known", "a(f1075838976,-3)=r0=[-3,0];r1=[1075838976,r0];r2=[f-1082130432,r1];r2;");
        Check.program(x, "a(x,y)=[(x+1),[(1+x),(x+x)]];");
        Check.task(x, "a(*,1)");
        Check.texts(x, "one NUM not known", "a(*,1)=r1=(r0+1);r2=(1+r0);r3=(r0+r0);r4=[r2,r3];r5=[r1,r4];r5;");
        Check.program(x, "a(x,y)=[$x,[^x,[#x,[&0x,!x]]]];");
        Check.task(x, "a([[*,1],2],1)");
        Check.texts(x, "NUM of a PAIR is a REGISTER",
            "a([[*,1],2],1)=r1=$r0;r2=^r0;r3=#r0;r4=&0r0;!r0;r5=[r0,1];r6=[r5,2];r7=[r4,r6];r8=[r3,r7];r9=[r2,r8];r10=[r1,r9];r10;");
        Check.task(x, "a([[5,*],*],1)");
        Check.texts(x, "NUM of a PAIR is known",
            "a([[5,*],*],1)=r2=&05;!5;r3=[5,r0];r4=[r3,r1];r5=[5,r4];r6=[1084227584,r5];r7=[f1084227584,r6];r8=[5,r7];r8;");
        Check.program(x, "a(x,y)=[&3x,&4x];");
        Check.task(x, "a(2.9,1)");
        Check.texts(x, "known what is there then", "a(f1077516698,1)=r0=&3f1077516698;r1=&4f1077516698;r2=[2,f1077516698];r2;");
        Check.program(x, "a(x,y)=[&01,_0];");
        Check.texts(x, "_ is never known", "a(f1077516698,1)=r0=&01;r1=_0;r2=[1,r1];r2;");
    }

    private static void textOfNumbers() {
        OnlineParts x = Check.with("a()=" + MIN + ";b()=" + MAX + ";c()=(0*-1.0);d()=-1.0;e()=[0,[-1,[10,100]]];f()=" + NAN + ";", "a()");
        String[] due = {"a()=-2147483648;", "b()=2147483647;", "c()=f-2147483648;", "d()=f-1082130432;",
            "e()=r0=[10,100];r1=[-1,r0];r2=[0,r1];r2;", "f()=f2143289344;"};
        for (String text : due) {
            Check.task(x, text.substring(0, 3));
            Check.texts(x, "NUMBER", text);
            Check.due("how many bytes", x.write(0), text.length());
            Check.due("its last byte", x.octet(text.length() - 1), ';');
            Check.due("behind it", x.octet(text.length()), -1);
        }
    }

    /** Promise 12: each count by itself, of a RESIDUE in which no two are alike. */
    private static void countsOfTheResidue() {
        OnlineParts x = Check.with("a(x)=?(x,[b(!_0),[b(&0!!!!x),&1!_1]],?(_2,c(7),[c(9),[d(1),[d(2),[d(3),d(4)]]]]));"
            + "b(x)=[e(),[e(),[e(),[e(),[e(),[e(),e()]]]]]];c(x)=c((x+1));d(x)=?(x,x,0);e()=[1,!2];", "a(*)");
        x.set(0, 1);
        // a: 3 GETS, 2 PUTS, 6 OUTS, 8 calls, 6 LIFTS, 2 IFS; b(*): 7 e() UNROLLED, 7 OUTS, 13 LIFTS;
        // c(7), c(9): one UNROLLED and one call each, GROWN; c(*): two +, one UNROLLED, one call;
        // d(1), d(2), d(3): none; d(*), for which d(4) is let go: an IF
        int[] due = {9, 53, 10, 11, 13, 5, 19, 3, 2, 1};
        x.specialise();
        for (int what = 0; what < due.length; what++) {
            Check.due("residue(" + what + ")", x.residue(what), due[what]);
        }
    }

    /** Promises 12 to 14, 19: at their edges, with a RESIDUE and without one. */
    private static void aboutTheResidue() {
        OnlineParts x = Check.with("a(x)=?(x,b(x),0);b(x)=1;", "a(*)");
        int[] lengths = {"a(*)=r2=?r0{r1=c1(r0);r1}{0};r2;".length(), "b(*)=1;".length()};
        int[] far = {Integer.MIN_VALUE, -2, -1, 2, 24, 300, Integer.MAX_VALUE};
        for (int with = 0; with < 2; with++) {
            for (int what = 0; what < 10; what++) {
                Check.due("residue(" + what + ")", x.residue(what) < 0 ? 1 : 0, with == 0 ? 1 : 0);
            }
            for (int what : new int[] {Integer.MIN_VALUE, -1, 10, 11, Integer.MAX_VALUE}) {
                Check.due("residue(" + what + ")", x.residue(what), -1);
            }
            for (int k : far) {
                Check.due("variant(" + k + ", 0)", x.variant(k, 0), -1);
                Check.due("kinds(" + k + ", 0)", x.kinds(k, 0), -1);
                Check.due("write(" + k + ")", x.write(k), -1);
            }
            for (int k = 0; k < 2; k++) {
                Check.due("variant(k, 0)", x.variant(k, 0), with == 0 ? -1 : k + 1);
                Check.due("variant(k, 6)", x.variant(k, 6), with == 0 ? -1 : 0);
                Check.due("variant(k, -1)", x.variant(k, -1), -1);
                Check.due("variant(k, 7)", x.variant(k, 7), -1);
                Check.due("kinds(k, 0)", x.kinds(k, 0), with == 0 ? -1 : 0);
                Check.due("kinds(k, 12)", x.kinds(k, 12), with == 0 ? -1 : 0);
                Check.due("kinds(k, -1)", x.kinds(k, -1), -1);
                Check.due("kinds(k, 13)", x.kinds(k, 13), -1);
                Check.due("write(k)", x.write(k), with == 0 ? -1 : lengths[k]);
            }
            x.specialise();
        }
    }
}
