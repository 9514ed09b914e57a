/**
 * The edges of the face itself (promises 1 to 3, 8, 9, 23): what a new object answers, the tape's room,
 * the settings' ends, numbers for which there is no answer, and the 512th call.
 */
final class EdgeFaceTest {
    private static final int[] FAR = {Integer.MIN_VALUE, Integer.MIN_VALUE + 1, -1000, -2, Integer.MAX_VALUE - 1, Integer.MAX_VALUE};

    public static void main(String[] args) {
        newObject();
        tapeRoom();
        tapeBytes();
        tapeFull();
        tapeEnd();
        settings();
        refusedSettings();
        isOf();
        isOfValues();
        opSigns();
        opEdges();
        lastCalls();
        programsAgain();
        runsAgain();
        runsBrokenAgain();
        specialisedAgain();
        brokenOffAgain();
        objectsApart();
        Check.close("EdgeFaceTest");
    }

    private static void newObject() {
        int[] is = {0, 0, 0, 6, 3, 120, 0, 0};
        for (int what = 0; what < 8; what++) {
            Check.due("new is(" + what + ")", new OnlineParts().is(what), is[what]);
        }
        OnlineParts x = new OnlineParts();
        Check.due("new fault()", x.fault(), -1);
        Check.due("new end(0)", x.end(0), 0);
        Check.due("new end(1)", x.end(1), -1);
        Check.due("No functions", x.function(0, 0), -1);
        Check.due("new specialise()", x.specialise(), -6);
        Check.due("new run(0, 0)", x.run(0, 0), 4);
        Check.due("new run(1, 0)", x.run(1, 0), -1);
        Check.due("new value()", x.value(), -1);
        Check.due("new agree()", x.agree(), -1);
        Check.due("new saved()", x.saved(), -1000);
        Check.due("new values() of an empty tape", x.values(), 0);
        Check.due("new program() of an empty tape", x.program(), 0);
        Check.due("new task() of an empty tape", x.task(), -1);
        Check.program(x, "a()=5;a(x)=6;");
        x.run(0, 0);
        Check.due("THE TASK is a()", Check.value(x), "5");
        Check.due("THE TASK is a()", x.specialise(), 1);
        Check.due("THE TASK is a()", Check.text(x, 0), "a()=5;");
    }

    private static void tapeRoom() {
        OnlineParts x = new OnlineParts();
        for (int k = 1; k <= 39; k++) {
            Check.due("feed", x.feed(0, 0, 0, 0, 0), 20 * k);
        }
        Check.due("780 bytes", x.is(6), 780);
        Check.due("800 bytes", x.feed(0, 0, 0, 0, 0), 800);
        Check.due("there would be 820", x.feed(0, 0, 0, 0, 0), -1);
        Check.due("none come", x.is(6), 800);
        for (int n = 781; n <= 799; n++) {
            Check.due("end", x.end(n), n);
            Check.due("there would be " + (n + 20), x.feed(0, 0, 0, 0, 0), -1);
            Check.due("none come", x.is(6), n);
            x.end(780);
            x.feed(0, 0, 0, 0, 0);
        }
        x.end(779);
        Check.due("799 bytes", x.feed(0, 0, 0, 0, 0), 799);
        x.end(780);
        Check.due("800 bytes", x.feed(0, 0, 0, 0, 0), 800);
    }

    private static void tapeBytes() {
        OnlineParts x = new OnlineParts();
        // a()=1;b()=2;c()=345; in its order: the highest byte of the first number first
        Check.due("feed", x.feed(0x6128293d, 0x313b6228, 0x293d323b, 0x6328293d, 0x3334353b), 20);
        Check.due("three functions", x.program(), 3);
        Check.task(x, "c()");
        x.run(0, 0);
        Check.due("its bytes in their order", Check.value(x), "345");
        // each of the twenty bytes by itself: with 255 there, or 0, the text goes on no further
        int[] text = {0x6128293d, 0x313b6228, 0x293d323b, 0x6328293d, 0x3334353b};
        for (int at = 0; at < 20; at++) {
            int[] t = text.clone();
            int shift = 24 - at % 4 * 8;
            t[at / 4] |= 255 << shift;
            x.feed(t[0], t[1], t[2], t[3], t[4]);
            x.program();
            Check.due("byte " + at, x.fault(), at);
            t[at / 4] &= ~(255 << shift);
            x.feed(t[0], t[1], t[2], t[3], t[4]);
            x.program();
            Check.due("byte " + at, x.fault(), at);
        }
        Check.due("all bytes below 0", x.feed(-1, -1, -1, -1, -1), 20);
        x.program();
        Check.due("all bytes below 0", x.fault(), 0);
        // behind what the tape has
        x.feed(0x6128293d, 0x313b6228, 0x293d323b, 0x6328293d, 0x3334353b);
        x.end(12);
        Check.due("behind the twelfth", x.feed(0x6428293d, 0x343b6528, 0x293d353b, 0x6628293d, 0x3637383b), 32);
        Check.due("both", x.program(), 5);
        Check.due("the third function", x.function(2, 0), 4);
        Check.task(x, "f()");
        x.run(0, 0);
        Check.due("the last one", Check.value(x), "678");
    }

    /** A PROGRAM of n bytes (some 790 to 803): l() is filled up by signs that leave its VALUE as it is. */
    private static String longProgram(int n) {
        StringBuilder b = new StringBuilder();
        for (char f = 'a'; f <= 'c'; f++) {
            b.append(f).append("(m,n,o,p,q)=").append(Check.sum("12.345", 27)).append(';');
        }
        b.append("k()=$$$$$$$$$$1;");
        int signs = n - b.length() - "l()=7;".length();
        return b.append("l()=").append("$".repeat(signs)).append("7;").toString();
    }

    private static void tapeFull() {
        for (int n = 799; n <= 800; n++) {
            String program = longProgram(n);
            Check.due("a PROGRAM of " + n + " bytes", program.length(), n);
            OnlineParts x = Check.with(program, "l()");
            Check.due("its last function", x.run(0, 0), 0);
            Check.due("its last function", Check.value(x), "7");
            Check.due("all of it", Check.program(x, program.substring(0, n - 1)), -1);
            Check.due("all of it", x.fault(), n - 1);
            Check.due("its last byte", Check.program(x, program.substring(0, n - 1) + ","), -1);
            Check.due("its last byte", x.fault(), n - 1);
        }
    }

    private static void tapeEnd() {
        OnlineParts x = new OnlineParts();
        Check.due("end(0) of none", x.end(0), 0);
        Check.due("it has not so many", x.end(1), -1);
        x.feed(1, 2, 3, 4, 5);
        Check.due("it has not so many", x.end(21), -1);
        Check.due("nothing is done", x.is(6), 20);
        Check.due("n is below 0", x.end(-1), -1);
        Check.due("nothing is done", x.is(6), 20);
        for (int n : FAR) {
            Check.due("end(" + n + ")", x.end(n), -1);
            Check.due("nothing is done", x.is(6), 20);
        }
        Check.due("all of it", x.end(20), 20);
        Check.due("end(19)", x.end(19), 19);
        Check.due("it has not so many then", x.end(20), -1);
        Check.due("end(1)", x.end(1), 1);
        Check.due("end(0)", x.end(0), 0);
        Check.due("is(6)", x.is(6), 0);
        // each of the three takes it
        for (int which = 0; which < 3; which++) {
            x.feed(1, 2, 3, 4, 5);
            int took = which == 0 ? x.program() : which == 1 ? x.task() : x.values();
            Check.due("a FAULT", took, -1);
            Check.due("empty then", x.is(6), 0);
            Check.due("empty then", x.end(1), -1);
        }
    }

    private static void settings() {
        int[] low = {0, 1, 10};
        int[] high = {12, 6, 300};
        for (int what = 0; what < 3; what++) {
            for (int v = low[what] - 2; v <= high[what] + 2; v++) {
                OnlineParts x = Check.with("a()=1;");
                int before = x.is(3 + what);
                x.specialise();
                boolean may = v >= low[what] && v <= high[what];
                Check.due("set(" + what + ", " + v + ")", x.set(what, v) ? 1 : 0, may ? 1 : 0);
                Check.due("is(" + (3 + what) + ")", x.is(3 + what), may ? v : before);
                Check.due("no RESIDUE then", x.residue(0), may ? -1 : 1);
                for (int other = 0; other < 3; other++) {
                    int first = other == 0 ? 6 : other == 1 ? 3 : 120;
                    Check.due("the others stay", other == what ? first : x.is(3 + other), first);
                }
            }
        }
        OnlineParts x = Check.with("a()=1;");
        x.specialise();
        Check.due("to what it is", x.set(0, 6) ? 1 : 0, 1);
        Check.due("no RESIDUE then, too", x.residue(0), -1);
        Check.due("the PROGRAM stays", x.is(0), 1);
    }

    private static void refusedSettings() {
        OnlineParts x = Check.with("a(x)=1;", "a(*)", "5");
        x.specialise();
        int[] whats = {-1, 3, 4, Integer.MIN_VALUE, Integer.MAX_VALUE};
        for (int what : whats) {
            for (int v : new int[] {0, 1, 5, 10, 12, 100}) {
                Check.due("set(" + what + ", " + v + ")", x.set(what, v) ? 1 : 0, 0);
            }
        }
        for (int what = 0; what < 3; what++) {
            for (int v : FAR) {
                Check.due("set(" + what + ", " + v + ")", x.set(what, v) ? 1 : 0, 0);
            }
        }
        Check.due("the RESIDUE stays", x.residue(0), 1);
        Check.due("the VALUES stay", x.is(2), 1);
        Check.due("UNROLL", x.is(3), 6);
        Check.due("VARIANTS", x.is(4), 3);
        Check.due("BUDGET", x.is(5), 120);
    }

    private static void isOf() {
        OnlineParts x = Check.with("a(x,y)=(x+y);b()=1;", "a(*,*)", "1,2");
        x.feed(1, 2, 3, 4, 5);
        int[] is = {2, 2, 2, 6, 3, 120, 20, 4};
        for (int what = 0; what < 8; what++) {
            Check.due("is(" + what + ")", x.is(what), is[what]);
        }
        Check.due("is(-1)", x.is(-1), -1);
        Check.due("is(8)", x.is(8), -1);
        for (int what : FAR) {
            Check.due("is(" + what + ")", x.is(what), -1);
        }
    }

    private static void isOfValues() {
        OnlineParts x = Check.with("a(x)=x;", "a(*)");
        Check.due("not told", x.is(2), 0);
        Check.values(x, "[1,2]");
        Check.due("told", x.is(2), 1);
        Check.task(x, "a([*,[*,*]])");
        Check.due("not told", x.is(2), 0);
        Check.values(x, "1,2");
        Check.due("not told", x.is(2), 0);
        Check.due("it doesn't run", x.run(0, 0), -1);
        Check.values(x, "1,2,3");
        Check.due("told", x.is(2), 3);
        Check.due("it runs", x.run(0, 0), 0);
        Check.task(x, "a(5)");
        Check.due("no LEAVES", x.is(2), 0);
        Check.due("it runs", x.run(0, 0), 0);
        Check.due("none told", Check.values(x, ""), 0);
        Check.due("no LEAVES", x.is(2), 0);
        Check.due("it runs", x.run(0, 0), 0);
    }

    private static void opSigns() {
        OnlineParts x = new OnlineParts();
        int six = Float.floatToIntBits(6f);
        int four = Float.floatToIntBits(4f);
        for (int sign = 0; sign < 256; sign++) {
            int want = sign == '+' ? Float.floatToIntBits(10f) : sign == '-' ? Float.floatToIntBits(2f)
                : sign == '*' ? Float.floatToIntBits(24f) : sign == '/' ? Float.floatToIntBits(1.5f)
                : sign == '%' ? 2 : 0;
            Check.due("op by " + sign, x.op(six, sign, four), want);
        }
        for (char sign : "+-*/%<=".toCharArray()) {
            Check.due("beyond a byte", x.op(four, sign + 256, six), 0);
            Check.due("beyond a byte", x.op(four, sign | 1 << 16, six), 0);
            Check.due("below 0", x.op(four, -sign, six), 0);
            Check.due("below 0", x.op(four, sign | Integer.MIN_VALUE, six), 0);
        }
        Check.due("4 < 6", x.op(four, '<', six), 1);
        Check.due("4 = 4", x.op(four, '=', four), 1);
    }

    private static void opEdges() {
        OnlineParts x = new OnlineParts();
        int greatest = 0x7f7fffff;
        int infinite = 0x7f800000;
        Check.due("greatest + 0", x.op(greatest, '+', 0), greatest);
        Check.due("greatest + half of its last bit, less one", x.op(greatest, '+', 0x72ffffff), greatest);
        Check.due("greatest + half of its last bit", x.op(greatest, '+', 0x73000000), infinite);
        Check.due("greatest * 2", x.op(greatest, '*', 0x40000000), infinite);
        Check.due("greatest / 1", x.op(greatest, '/', 0x3f800000), greatest);
        Check.due("least / 1", x.op(1, '/', 0x3f800000), 1);
        Check.due("least / 2, to the even one", x.op(1, '/', 0x40000000), 0);
        Check.due("three of the least / 2, to the even one", x.op(3, '/', 0x40000000), 2);
        Check.due("least * -0.5", x.op(1, '*', 0xbf000000), 0x80000000);
        Check.due("the least of full width / 2", x.op(0x00800000, '/', 0x40000000), 0x00400000);
        Check.due("0 + -0", x.op(0, '+', 0x80000000), 0);
        Check.due("-0 + -0", x.op(0x80000000, '+', 0x80000000), 0x80000000);
        Check.due("0 - 0", x.op(0, '-', 0), 0);
        Check.due("-0 - 0", x.op(0x80000000, '-', 0), 0x80000000);
        Check.due("0 = -0", x.op(0, '=', 0x80000000), 1);
        Check.due("-0 < 0", x.op(0x80000000, '<', 0), 0);
        Check.due("least > 0", x.op(0, '<', 1), 1);
        Check.due("1 / 0", x.op(0x3f800000, '/', 0), infinite);
        Check.due("1 / -0", x.op(0x3f800000, '/', 0x80000000), 0xff800000);
        Check.due("0 / 0", x.op(0, '/', 0), 0x7fc00000);
        Check.due("1 % 0", x.op(0x3f800000, '%', 0), 0);
        Check.due("2^31 % 2^31: both the greatest INT", x.op(0x4f000000, '%', 0x4f000000), 0);
        Check.due("2^31 % 10: the greatest INT", x.op(0x4f000000, '%', 0x41200000), 7);
        Check.due("-2^31 % 10: the least INT", x.op(0xcf000000, '%', 0x41200000), -8);
        Check.due("-2^31 % -1", x.op(0xcf000000, '%', 0xbf800000), 0);
        for (int nan : new int[] {0x7f800001, 0x7fc00000, 0x7fffffff, 0xff800001, 0xffffffff}) {
            for (char sign : "+-*/".toCharArray()) {
                Check.due("nan", x.op(nan, sign, 0x3f800000), 0x7fc00000);
                Check.due("nan", x.op(0x3f800000, sign, nan), 0x7fc00000);
            }
            for (char sign : "<=%".toCharArray()) {
                Check.due("nan", x.op(nan, sign, nan), 0);
                Check.due("nan", x.op(0x3f800000, sign, nan), 0);
            }
        }
    }

    /** An object is used for at most 512 calls: the last of these is answered as the first. */
    private static void lastCalls() {
        OnlineParts x = Check.with("a(x)=?(x,[!x,a((x-1))],0);", "a(*)", "3");
        // 5 calls to tell the PROGRAM, 4 for THE TASK, 4 for the VALUES; each round takes eight, then three
        for (int round = 0; round < 62; round++) {
            Check.due("round " + round, x.specialise(), 1);
            Check.due("round " + round, x.run(0, 2), 3);
            Check.due("round " + round, x.run(1, 2), 3);
            Check.due("round " + round, x.agree(), 1);
            Check.due("round " + round, x.value(), 13);
            Check.due("round " + round, x.octet(12), ']');
            Check.due("round " + round, x.saved(), 0);
            Check.due("round " + round, x.place(0), 0);
        }
        Check.due("the 510th call", x.specialise(), 1);
        Check.due("the 511th call", x.run(1, 3), 7);
        Check.due("the 512th call", x.agree(), 1);
    }

    /** A PROGRAM that has many things, less than 800 bytes: 20 in each of 29 functions. */
    private static String denseProgram() {
        StringBuilder b = new StringBuilder();
        for (int k = 0; k < 29; k++) {
            b.append((char) ('a' + k % 12)).append(k < 12 ? "()=" : k < 24 ? "(x)=" : "(x,y)=").append("$".repeat(19)).append(k % 10).append(';');
        }
        return b.toString();
    }

    /** As many PROGRAMS as 512 calls may tell: each is told as the first. */
    private static void programsAgain() {
        OnlineParts x = new OnlineParts();
        for (int round = 0; round < 11; round++) {
            Check.due("told again " + round, Check.program(x, denseProgram()), 29);
            Check.due("its things " + round, x.is(7), 29 * 20);
            Check.due("its last function " + round, x.function(28, 2), 20);
        }
        Check.task(x, "e(1,2)");
        Check.due("its last function", x.run(0, 0), 0);
        Check.due("its last function", Check.value(x), "8");
        Check.due("its last function", x.specialise(), 1);
        Check.due("its last function", Check.text(x, 0), "e(1,2)=8;");
    }

    /** RUNS that make many PAIRS, one after the other: each is as the first. a(x) is 13 x and what it calls. */
    private static void runsAgain() {
        OnlineParts x = Check.with("b(x)=?(_0,0," + "[".repeat(18) + "x" + ",1]".repeat(18) + ");"
            + "a(x)=(" + Check.sum("b(x)", 13) + "+?((x<1),0,(a((x-1))+a((x-3)))));", "a(*)", "3");
        x.specialise();
        for (int round = 0; round < 40; round++) {
            Check.due("run(0) again " + round, x.run(0, 1), 98);
            Check.due("its VALUE", Check.value(x), "39");
        }
        Check.values(x, "9");
        for (int round = 0; round < 40; round++) {
            Check.due("run(1) again " + round, x.run(1, 1), 81);
            Check.due("its VALUE", Check.value(x), "1053");
        }
    }

    /** RUNS that end with much under way, by each end: the next one is as the first. */
    private static void runsBrokenAgain() {
        String[] holes = {"a()", "(" + Check.sum("b()", 20) + "+a())", "[" + "[1,".repeat(9) + "1" + "]".repeat(9) + ",c()]", "e()"};
        int[] ends = {3, 1, 2, 4};
        for (int k = 0; k < holes.length; k++) {
            OnlineParts x = Check.with("a()=[1,[2,[3,[4," + (k == 3 ? "f()" : holes[k]) + "]]]];b()=1;c()=" + "[1,".repeat(12) + "1"
                + "]".repeat(12) + ";d(x)=[x,[_0,_4]];f()=[1,[2,?(_0,1,e())]];", "a()");
            x.set(0, 0);
            Check.due("SPECIALISED", x.specialise() > 0 ? 1 : 0, 1);
            for (int round = 0; round < 100; round++) {
                Check.due("ends by " + ends[k] + " again", x.run(0, 0), ends[k]);
                Check.due("ends by " + ends[k] + " again, the RESIDUE", x.run(1, 0), ends[k]);
            }
            Check.task(x, "d(*)");
            Check.values(x, "7");
            x.specialise();
            for (int where = 0; where < 2; where++) {
                Check.due("then one that is DONE", x.run(where, 0), 0);
                Check.due("then one that is DONE", Check.value(x), "[7,[0,f0]]");
                Check.due("then one that is DONE", x.run(where, 1), 1);
                Check.due("then one that is DONE", x.run(where, 5), 1);
            }
        }
    }

    /** A RESIDUE of 300 IFS, again and again: each is as the first. */
    private static void specialisedAgain() {
        OnlineParts x = Check.with("b(x)=" + "?(".repeat(15) + "x" + ",1,2)".repeat(15)
            + ";c(x)=b(b(b(b(b(x)))));a(x)=c(c(c(c(x))));g(x)=?(x,g(7),g(2));", "a(*)", "0");
        for (int round = 0; round < 30; round++) {
            Check.due("SPECIALISED again " + round, x.specialise(), 1);
            Check.due("its IFS", x.residue(7), 300);
            Check.due("UNROLLED", x.residue(2), 24);
            Check.due("they agree", x.agree(), 1);
            Check.due("its VALUE", x.run(1, 3), 1);
        }
        Check.task(x, "g(*)");
        x.set(0, 0);
        x.set(1, 1);
        for (int round = 0; round < 30; round++) {
            Check.due("SPECIALISED again " + round, x.specialise(), 1);
            Check.due("calls all *", x.residue(9), 2);
            Check.due("calls of it", x.variant(0, 5), 2);
        }
    }

    /** It breaks off in BLOCKS and in ? of known numbers: the next one is as the first. */
    private static void brokenOffAgain() {
        String heavy = "[[" + "[1,".repeat(8) + "1" + "]".repeat(8) + "," + "[1,".repeat(8) + "1" + "]".repeat(8) + "],[y,y]]";
        OnlineParts x = Check.with("a(x,y)=?(x,?(1,?(1,?(1,?(x," + heavy + ",1),1),1),1),1);b(x)=c(x);c(x)=?(1,(x+1),0);", "a(*,[[1,2],3])");
        for (int round = 0; round < 200; round++) {
            Check.due("breaks off again " + round, x.specialise(), -5);
        }
        Check.task(x, "b(*)");
        Check.texts(x, "then one that stands", "b(*)=r1=(r0+1);r1;");
        Check.due("INSTRUCTIONS", x.residue(1), 1);
        Check.due("UNROLLED", x.residue(2), 1);
        Check.due("IFS", x.residue(7), 0);
    }

    /** What one object holds is none of another's. */
    private static void objectsApart() {
        OnlineParts x = Check.with("a(x)=x;", "a(*)", "5");
        OnlineParts y = Check.with("a()=1;b()=2;", "b()");
        x.specialise();
        y.set(0, 0);
        Check.due("RESIDUE", x.residue(0), 1);
        Check.due("UNROLL", x.is(3), 6);
        Check.due("functions", x.is(0), 1);
        Check.due("functions", y.is(0), 2);
        y.run(0, 0);
        Check.due("no run()", x.value(), -1);
        x.run(0, 0);
        Check.due("VALUE", Check.value(x), "5");
        Check.due("VALUE", Check.value(y), "2");
    }
}
