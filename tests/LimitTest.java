import java.lang.management.ManagementFactory;

/** The document's limits on code, calls and VARIANTS; and that no call makes objects. */
final class LimitTest {
    public static void main(String[] args) {
        tooMuchCode();
        tooMuchUnrolled();
        tooManyVariants();
        tooHeavy();
        residueLimits();
        deepest();
        longestText();
        strangeArguments();
        nothingIsMade();
        Check.close("LimitTest");
    }

    private static void tooMuchCode() {
        // b() leaves 18 OUTS, 16 of it 288
        String b = "b()=" + "!".repeat(18) + "1;";
        OnlineParts x = Check.with("a()=(" + Check.sum("b()", 16) + "+" + "!".repeat(12) + "1);" + b, "a()");
        Check.due("300 INSTRUCTIONS", x.specialise(), 1);
        Check.due("300 INSTRUCTIONS", x.residue(1), 300);
        Check.due("300 INSTRUCTIONS", Check.text(x, 0), "a()=" + "!1;".repeat(300) + "17;");
        Check.due("they agree", x.agree(), 1);
        Check.program(x, "a()=(" + Check.sum("b()", 16) + "+" + "!".repeat(13) + "1);" + b);
        Check.due("301 INSTRUCTIONS", x.specialise(), -2);
        Check.due("no RESIDUE", x.residue(0), -1);
        Check.due("no RESIDUE", x.run(1, 0), -1);
        Check.due("no RESIDUE", x.agree(), -1);
        // the 301st by a LIFT, by a 6
        Check.program(x, "a()=[(" + Check.sum("b()", 16) + "+" + "!".repeat(12) + "1),1];" + b);
        Check.due("301st by LIFT", x.specialise(), -2);
        Check.program(x, "a(x)=?(x,(" + Check.sum("b()", 1) + "+1),2);b()=" + "!".repeat(19) + "1;");
        Check.task(x, "a(*)");
        Check.due("a call in a BLOCK", x.specialise(), 2);
        Check.due("its INSTRUCTIONS", x.variant(1, 3), 19);
        Check.program(x, "a(x)=(" + Check.sum("!".repeat(14) + "x", 4) + "+[[[[1,2],3],4],x]);");
        Check.due("no LIFT for a NUM", x.specialise(), 1);
        Check.due("no LIFT for a NUM", x.residue(1), 4 * 14 + 4);
    }

    private static void tooMuchUnrolled() {
        String d = "d()=1;b()=" + Check.sum("d()", 19) + ";";
        OnlineParts x = Check.with(d + "a()=" + Check.sum("b()", 10) + ";", "a()");
        Check.due("200 UNROLLED", x.specialise(), 1);
        Check.due("200 UNROLLED", x.residue(2), 200);
        Check.due("200 UNROLLED", Check.text(x, 0), "a()=190;");
        Check.due("the source takes too many calls", x.agree(), 0);
        Check.program(x, d + "a()=(" + Check.sum("b()", 10) + "+d());");
        Check.due("201 UNROLLED", x.specialise(), -3);
        Check.due("no RESIDUE", x.residue(0), -1);
        // a call that is not told is none of them
        Check.program(x, d + "a()=(" + Check.sum("b()", 10) + "+e());");
        Check.due("200 UNROLLED, one not told", x.specialise(), 1);
        // of all VARIANTS together
        Check.program(x, "c()=" + Check.sum("d()", 19) + ";" + d + "a(x)=?(x,c()," + Check.sum("b()", 1) + ");");
        Check.task(x, "a(*)");
        Check.due("in the VARIANTS", x.specialise(), 3);
        Check.due("in the VARIANTS", x.residue(2), 38);
    }

    private static String callsOf(int n) {
        StringBuilder row = new StringBuilder();
        StringBuilder program = new StringBuilder();
        for (int k = 0; k < 4; k++) {
            program.append((char) ('b' + k)).append("(x)=x;");
        }
        String e = "";
        int open = 0;
        for (int k = 0; k < n; k++) {
            String call = (char) ('b' + k / 6) + "(" + k % 6 + ")";
            if (k % 4 == 0) {
                row.append(k > 0 ? "+" : "").append(k + 4 < n ? "(" : "");
                open += k + 4 < n ? 1 : 0;
                e = call;
            } else {
                e = "(" + e + "+" + call + ")";
            }
            if (k % 4 == 3 || k == n - 1) {
                row.append(e);
            }
        }
        return program + "a()=" + row + ")".repeat(open) + ";";
    }

    private static void tooManyVariants() {
        OnlineParts x = Check.with(callsOf(23), "a()");
        x.set(0, 0);
        x.set(1, 6);
        Check.due("24 VARIANTS", x.specialise(), 24);
        Check.due("24 VARIANTS", Check.text(x, 23), "e(4)=4;");
        Check.due("they agree", x.agree(), 1);
        Check.program(x, callsOf(24));
        Check.due("25 VARIANTS", x.specialise(), -4);
        Check.due("no RESIDUE", x.residue(0), -1);
        // all * is one VARIANT
        x.set(1, 5);
        Check.due("six of each are too many", x.specialise(), -4);
        x.set(1, 4);
        Check.due("five of each", x.specialise(), 21);
        Check.due("calls all *", x.residue(9), 8);
    }

    private static void tooHeavy() {
        OnlineParts x = Check.with("a(x)=?(x,:y=a((x-1)),[y,y],0);b(x)=[[a(4),0],x];", "a(4)");
        Check.due("WEIGHT 31", x.specialise(), 1);
        Check.due("LIFTED", x.residue(6), 15);
        Check.task(x, "a(5)");
        Check.due("WEIGHT 63", x.specialise(), -5);
        Check.task(x, "b([*,[*,*]])");
        Check.due("WEIGHT 39", x.specialise(), 1);
        Check.due("LIFTED", x.residue(6), 19);
        Check.values(x, "1,2,3");
        Check.due("they agree", x.agree(), 1);
        Check.values(x, "1,2,[3,4]");
        Check.due("too heavy as it runs", x.run(1, 0), 2);
        Check.due("alike", x.agree(), 1);
        Check.task(x, "b([[*,*],[*,*]])");
        Check.due("WEIGHT 41", x.specialise(), -5);
        Check.due("no RESIDUE", x.residue(0), -1);
    }

    private static void residueLimits() {
        OnlineParts x = Check.with("a(x)=?(x,a((x-1)),7);", "a(*)");
        x.specialise();
        Check.values(x, "29");
        Check.due("30 in one another", x.run(1, 0), 0);
        Check.due("30 in one another", x.run(1, 5), 30);
        Check.values(x, "30");
        Check.due("31 in one another", x.run(1, 0), 3);
        Check.due("31 in one another", x.run(1, 1), 30);
        x = Check.with("d(x)=x;c(x)=?(x," + Check.sum("d(x)", 10) + ",0);a(x)=?(x," + Check.sum("c(x)", 9) + ",0);b(x)=?(x,(a(x)+d(x)),0);",
            "a(*)");
        x.specialise();
        Check.values(x, "1");
        Check.due("100 calls", x.run(1, 0), 0);
        Check.due("100 calls", x.run(1, 1), 100);
        Check.task(x, "b(*)");
        x.specialise();
        Check.values(x, "1");
        Check.due("101 calls", x.run(1, 0), 1);
        Check.due("101 calls", x.run(1, 1), 100);
        Check.due("101 calls", x.agree(), 1);
        // a 12 in the BLOCK that isn't asked
        x = Check.with("a(x)=?(x,e(),7);", "a(*)");
        x.specialise();
        Check.values(x, "0");
        Check.due("not asked", x.run(1, 0), 0);
        Check.values(x, "1");
        Check.due("asked", x.run(1, 0), 4);
        Check.due("asked", x.agree(), 1);
    }

    /** Things that lie deep in functions that call deep. */
    private static void deepest() {
        String body = "!".repeat(8) + "?(x," + "$".repeat(7) + "a((x-1)),0)";
        OnlineParts x = Check.with("a(x)=" + body + ";", "a(*)");
        for (int unroll = 0; unroll <= 12; unroll++) {
            x.set(0, unroll);
            Check.due("specialise", x.specialise(), 1);
            Check.values(x, "29");
            Check.due("deep run", x.run(0, 0), 0);
            Check.due("deep run", x.run(1, 0), 0);
            Check.due("agree", x.agree(), 1);
        }
        // IFS in IFS, as deep as may be, 30 calls of them
        String ifs = "?(x,".repeat(17) + "a((x-1))" + ",0)".repeat(17);
        x = Check.with("a(x)=" + ifs + ";", "a(*)");
        Check.due("specialise", x.specialise(), 1);
        Check.due("IFS", x.residue(7), 17);
        Check.values(x, "29");
        Check.due("deep run", x.run(1, 0), 0);
        Check.due("agree", x.agree(), 1);
        Check.due("text", x.write(0) > 200 ? 1 : 0, 1);
        // known ? in UNROLLED calls, as deep as may be
        x = Check.with("a(x,y)=" + "?(x,".repeat(16) + "(a((x-1),y)+y)" + ",0)".repeat(16) + ";", "a(12,*)");
        x.set(0, 12);
        Check.due("specialise", x.specialise(), 1);
        Check.due("UNROLLED", x.residue(2), 12);
        Check.values(x, "3");
        Check.due("agree", x.agree(), 1);
        Check.due("saved", x.saved(), 12);
        // slots: five arguments and 19 VARS of :
        x = Check.with("a(x,y,z,m,n)=" + ":o=x,".repeat(9) + ":p=(o+n),".repeat(9) + "(p+m);", "a(1,2,3,4,*)");
        x.specialise();
        Check.values(x, "5");
        Check.due("agree", x.agree(), 1);
        x.run(1, 0);
        Check.due("value", Check.value(x), "10");
        // the deepest PAIRS: 19 in one another weigh 39
        x = Check.with("a(x)=" + "[1,".repeat(18) + "x" + "]".repeat(18) + ";b(x)=" + "[".repeat(18) + "x" + ",1]".repeat(18) + ";", "a([1,*])");
        x.specialise();
        Check.values(x, "2");
        Check.due("DEEP", x.run(0, 4), 19);
        Check.due("agree", x.agree(), 1);
        Check.due("value", x.value(), 19 * 4 + 1);
        Check.task(x, "b([*,2])");
        x.specialise();
        Check.values(x, "2");
        Check.due("DEEP", x.run(1, 4), 19);
        Check.due("agree", x.agree(), 1);
    }

    /** 300 PUTS of a FLOAT with many digits: THE TEXT is long, and whole. */
    private static void longestText() {
        String b = "b()=" + "&0".repeat(18) + "(-1/3.0);";
        OnlineParts x = Check.with("a()=(" + Check.sum("b()", 16) + "+" + "&7".repeat(12) + "-1.5);" + b, "a()");
        Check.due("300 PUTS", x.specialise(), 1);
        Check.due("300 PUTS", x.residue(5), 300);
        String text = Check.text(x, 0);
        Check.due("its last PUT", text.endsWith("r299=&7f-1077936128;f-1077936128;") ? 1 : 0, 1);
        Check.due("its INSTRUCTIONS", text.length() - text.replace(";", "").length(), 301);
    }

    private static void strangeArguments() {
        int[] strange = {Integer.MIN_VALUE, -1000, -2, -1, 0, 1, 2, 3, 5, 6, 7, 8, 12, 13, 24, 60, 72, 300, 801, 1 << 20, Integer.MAX_VALUE};
        String[] programs = {"", "a(x)=?(x,[!x,&4a((x-1))],_3);b()=e();"};
        for (String p : programs) {
            OnlineParts x = Check.with(p, p.isEmpty() ? "a()" : "a(*)");
            x.specialise();
            Check.values(x, p.isEmpty() ? "" : "2");
            x.run(0, 0);
            for (int a : strange) {
                for (int b : strange) {
                    x.function(a, b);
                    x.variant(a, b);
                    x.kinds(a, b);
                    x.output(a, b);
                    x.op(a, b, a);
                    x.op(a, '/', b);
                    x.run(a, b);
                }
                x.is(a);
                x.residue(a);
                x.place(a);
                x.write(a);
                x.octet(a);
                x.end(a);
                x.set(a, a);
            }
            Check.due("still well", x.is(0), p.isEmpty() ? 0 : 2);
        }
    }

    /** All calls live in one room: after the constructor no call takes any of it. */
    private static void nothingIsMade() {
        OnlineParts x = Check.with("a(x,y)=?(x,[!y,b([x,y])],a(y,(0-1)));b(x)=?(@x,a((@x-1),~x),1.5);", "a(*,[*,3])");
        Check.values(x, "5,2");
        com.sun.management.ThreadMXBean threads = (com.sun.management.ThreadMXBean) ManagementFactory.getThreadMXBean();
        long own = Thread.currentThread().getId();
        long before = threads.getThreadAllocatedBytes(own);
        long idle = threads.getThreadAllocatedBytes(own) - before;
        int sum = 0;
        before = threads.getThreadAllocatedBytes(own);
        for (int k = 0; k < 50; k++) {
            sum += x.set(0, k % 13) ? 1 : 0;
            sum += x.specialise() + x.run(0, 0) + x.run(1, 0) + x.agree() + x.saved() + x.value() + x.write(0);
            sum += x.octet(3) + x.feed(1, 2, 3, 4, 5) + x.program() + x.task() + x.values() + x.fault() + x.kinds(0, 11);
        }
        long made = threads.getThreadAllocatedBytes(own) - before;
        Check.due("bytes made by calls (" + sum + ")", made <= idle + 4096 ? 0 : made, 0);
    }
}
