/** Each promise by hand. What is due was reckoned from the document, not from the class. */
final class PromiseTest {
    private static final int NONE = -1;

    public static void main(String[] args) {
        newObject();
        feedAndEnd();
        programTaskValues();
        settings();
        functions();
        numbers();
        runs();
        outputsAndPlaces();
        valueAndOctets();
        specialising();
        choices();
        callsLeft();
        grown();
        letGo();
        residueAndVariants();
        agreeAndSaved();
        ops();
        Check.close("PromiseTest");
    }

    /** The VALUE of a(), whose E is told. */
    private static void isValue(String e, String want) {
        OnlineParts x = Check.with("a()=" + e + ";");
        Check.due(e, x.run(0, 0), 0);
        Check.due(e, Check.value(x), want);
        Check.due(e + " specialised", x.specialise(), 1);
        Check.due(e + " specialised", x.run(1, 0), 0);
        Check.due(e + " specialised", Check.value(x), want);
    }

    // 1
    private static void newObject() {
        OnlineParts x = new OnlineParts();
        int[] first = {0, 0, 0, 6, 3, 120, 0, 0, NONE};
        for (int what = 0; what < first.length; what++) {
            Check.due("new is(" + what + ")", x.is(what), first[what]);
        }
        Check.due("new is(-1)", x.is(-1), NONE);
        Check.due("new fault()", x.fault(), NONE);
        Check.due("new run(0, 0)", x.run(0, 0), 4);
        Check.due("new run(0, 1)", x.run(0, 1), 0);
        Check.due("new run(0, 5)", x.run(0, 5), 0);
        Check.due("new specialise()", x.specialise(), -6);
        Check.program(x, "a()=7;");
        Check.due("THE TASK is a()", x.run(0, 0), 0);
        Check.due("THE TASK is a()", Check.value(x), "7");
    }

    // 2, 3
    private static void feedAndEnd() {
        OnlineParts x = new OnlineParts();
        for (int k = 1; k <= 40; k++) {
            Check.due("feed " + k, x.feed(k, -1, 0, 7, 9), 20 * k);
        }
        Check.due("feed of 820", x.feed(1, 2, 3, 4, 5), NONE);
        Check.due("is(6)", x.is(6), 800);
        Check.due("end(801)", x.end(801), NONE);
        Check.due("end(-1)", x.end(-1), NONE);
        Check.due("end(MIN)", x.end(Integer.MIN_VALUE), NONE);
        Check.due("end(MAX)", x.end(Integer.MAX_VALUE), NONE);
        Check.due("end(800)", x.end(800), 800);
        Check.due("end(781)", x.end(781), 781);
        Check.due("feed of 801", x.feed(1, 2, 3, 4, 5), NONE);
        Check.due("is(6)", x.is(6), 781);
        Check.due("end(780)", x.end(780), 780);
        Check.due("feed of 800", x.feed(1, 2, 3, 4, 5), 800);
        Check.due("end(0)", x.end(0), 0);
        Check.due("end(1)", x.end(1), NONE);
        // 'a','(',')','=' is one number, its highest byte first
        Check.due("feed", x.feed(0x6128293d, 0x313b6228, 0x293d323b, 0x6328293d, 0x333b6428), 20);
        Check.due("end(18)", x.end(18), 18);
        Check.due("program()", x.program(), 3);
        Check.due("is(6) behind program()", x.is(6), 0);
    }

    // 4, 5, 6, 7
    private static void programTaskValues() {
        OnlineParts x = new OnlineParts();
        Check.due("program", Check.program(x, "a(x)=x;a()=1;a(x,y)=2;"), 3);
        Check.due("task", Check.task(x, "a([*,*])"), 2);
        Check.due("is(1)", x.is(1), 2);
        Check.due("is(2) ahead", x.is(2), 0);
        Check.due("run without VALUES", x.run(0, 0), NONE);
        Check.due("specialise", x.specialise(), 1);
        Check.due("RESIDUE's run without VALUES", x.run(1, 0), NONE);
        Check.due("agree without VALUES", x.agree(), NONE);
        Check.due("saved without VALUES", x.saved(), -1000);
        Check.due("values", Check.values(x, "1.5,[-2,3]"), 2);
        Check.due("is(2)", x.is(2), 2);
        Check.due("the RESIDUE stays with values()", x.residue(0), 1);
        Check.due("is(6)", x.is(6), 0);
        x.run(0, 0);
        Check.due("value", Check.value(x), "[f1069547520,[-2,3]]");

        Check.due("values with a FAULT", Check.values(x, "1"), NONE);
        Check.due("fault", x.fault(), 1);
        Check.due("the tape is empty then", x.is(6), 0);
        Check.due("those told stay", x.is(2), 2);
        x.run(0, 0);
        Check.due("those told stay", Check.value(x), "[f1069547520,[-2,3]]");
        Check.due("values", Check.values(x, "4,5"), 2);
        Check.due("fault of none", x.fault(), NONE);

        Check.due("program with a FAULT", Check.program(x, "b()=;"), NONE);
        Check.due("fault", x.fault(), 4);
        Check.due("all stays", x.is(0), 3);
        Check.due("all stays", x.residue(0), 1);
        Check.due("all stays", x.is(2), 2);
        Check.due("task with a FAULT", Check.task(x, "a(*"), NONE);
        Check.due("fault", x.fault(), 3);
        Check.due("all stays", x.is(1), 2);
        Check.due("all stays", x.is(2), 2);
        Check.due("all stays", x.residue(0), 1);

        Check.due("a new program", Check.program(x, "a(x)=~x;"), 1);
        Check.due("fault", x.fault(), NONE);
        Check.due("no RESIDUE then", x.residue(0), NONE);
        Check.due("VALUES stay", x.is(2), 2);
        x.run(0, 0);
        Check.due("value", Check.value(x), "5");
        x.specialise();
        Check.due("a new task", Check.task(x, "a(*)"), 1);
        Check.due("no RESIDUE then", x.residue(0), NONE);
        Check.due("no VALUES then", x.is(2), 0);
        Check.due("no VALUES then", x.run(0, 0), NONE);
        Check.due("no LEAVES", Check.task(x, "a(7)"), 0);
        Check.due("none: empty", Check.values(x, ""), 0);
        Check.due("none: empty", Check.values(x, "1"), NONE);
        Check.due("fault", x.fault(), 0);
        Check.due("no LEAVES: it runs", x.run(0, 0), 0);
        Check.due("an empty program", Check.program(x, ""), 0);
        Check.due("an empty program", x.is(0), 0);
        Check.due("an empty task", Check.task(x, ""), NONE);
        Check.due("fault", x.fault(), 0);
    }

    // 8, 9 (their ends are in EdgeFaceTest)
    private static void settings() {
        OnlineParts x = Check.with("a()=1;");
        int[] to = {4, 2, 50};
        for (int what = 0; what < 3; what++) {
            x.specialise();
            Check.due("set(" + what + "," + to[what] + ")", x.set(what, to[what]) ? 1 : 0, 1);
            Check.due("is then", x.is(3 + what), to[what]);
            Check.due("no RESIDUE then", x.residue(0), NONE);
        }
        x.specialise();
        Check.due("set(3, 1)", x.set(3, 1) ? 1 : 0, 0);
        Check.due("set(-1, 1)", x.set(-1, 1) ? 1 : 0, 0);
        Check.due("the RESIDUE stays", x.residue(0), 1);
    }

    // 10
    private static void functions() {
        OnlineParts x = Check.with("l(x,y,z,m,n)=!!&7[_0,x];c()=c(l());");
        int[][] due = {{12, 5, 6, 0, 2, 2}, {3, 0, 2, 2, 0, 0}};
        for (int k = 0; k < 2; k++) {
            for (int what = 0; what < 6; what++) {
                Check.due("function(" + k + "," + what + ")", x.function(k, what), due[k][what]);
            }
        }
        Check.due("is(7)", x.is(7), 8);
        Check.due("function(0, 6)", x.function(0, 6), NONE);
        Check.due("function(0, -1)", x.function(0, -1), NONE);
        Check.due("function(2, 0)", x.function(2, 0), NONE);
        Check.due("function(-1, 0)", x.function(-1, 0), NONE);
        Check.due("things", Check.with("a(x)=:y=?(x,[1,2],(x+1)),$^#@~y;").is(7), 15);
    }

    // I: the EXPRESSIONS
    private static void numbers() {
        isValue("-0", "0");
        isValue("00012", "12");
        isValue("-99999", "-99999");
        isValue("0.5", "f" + Float.floatToIntBits(0.5f));
        isValue("99999.999", "f" + Float.floatToIntBits(99999999f / 1000f));
        isValue("-1.10", "f" + Float.floatToIntBits(-110f / 100f));
        isValue("-0.0", "f0");
        isValue("((99999*99999)+(99999*99999))", "" + 2 * (99999 * 99999));
        isValue("(-7/2)", "-3");
        isValue("(7/0)", "0");
        isValue("(7%0)", "0");
        isValue("(-7%3)", "-1");
        isValue("(7.9%-3.9)", "1");
        isValue("((0.0/0.0)%3)", "0");
        isValue("(5%(0.0/0.0))", "0");
        isValue("((1/0.0)%10)", "7");
        isValue("(7/2.0)", "f" + Float.floatToIntBits(3.5f));
        isValue("(1/0.0)", "f2139095040");
        isValue("(-1/0.0)", "f-8388608");
        isValue("(0/0.0)", "f2143289344");
        isValue("(1<2.5)", "1");
        isValue("(2=2.0)", "1");
        isValue("(2<2)", "0");
        isValue("((0/0.0)=(0/0.0))", "0");
        isValue("((0/0.0)<1)", "0");
        isValue("(0.0=(0*-1.0))", "1");
        isValue("((4096*4096)=((4096*4096)+1))", "0");
        isValue("(^(4096*4096)=((4096*4096)+1))", "1");
        isValue("$2.9", "2");
        isValue("$-2.9", "-2");
        isValue("$(1/0.0)", "2147483647");
        isValue("$(-1/0.0)", "-2147483648");
        isValue("$(0/0.0)", "0");
        isValue("^3", "f1077936128");
        isValue("#1", "1065353216");
        isValue("#(0/0.0)", "2143289344");
        isValue("#[-1,9]", "-1082130432");
        isValue("@[[1,2],3]", "[1,2]");
        isValue("~[[1,2],3]", "3");
        isValue("@7", "7");
        isValue("~7.5", "0");
        isValue("([[3,1],9]+[4,5])", "7");
        isValue("?((0/0.0),1,2)", "1");
        isValue("?((0*-1.0),1,2)", "2");
        isValue("?([0,5],1,2)", "2");
        isValue("![5,6]", "[5,6]");
        isValue("&0[2.9,1]", "2");
        isValue("&47", "f1088421888");
        isValue("[_0,_4]", "[0,f0]");
        isValue("[&03,_0]", "[3,3]");
        isValue(":x=1,[x,:x=2,[x,:y=x,(x+y)]]", "[1,[2,4]]");
        isValue(":x=1,[:x=2,x,x]", "[2,1]");
    }

    // II, 15
    private static void runs() {
        OnlineParts x = Check.with("a(x)=?(x,b(a((x-1))),0);b(x)=(x+1);", "a(*)");
        Check.values(x, "3");
        int[] due = {0, 7, 0, 1, 0, 4, NONE};
        for (int what = 0; what < due.length; what++) {
            Check.due("run(0," + what + ")", x.run(0, what), due[what]);
        }
        Check.due("run(0,-1)", x.run(0, -1), NONE);
        Check.due("run(-1,0)", x.run(-1, 0), NONE);
        Check.due("run(2,0)", x.run(2, 0), NONE);
        Check.due("run(1,0) without a RESIDUE", x.run(1, 0), NONE);
        Check.values(x, "29");
        Check.due("30 calls in one another", x.run(0, 0), 0);
        Check.due("30 calls in one another", x.run(0, 5), 30);
        Check.values(x, "30");
        Check.due("31 calls in one another", x.run(0, 0), 3);
        Check.due("31 calls in one another", x.run(0, 1), 30);
        Check.due("not DONE: no WEIGHT", x.run(0, 3), 0);

        // the 101st call: each c() takes itself and 10 of d
        x = Check.with("d()=1;c()=" + Check.sum("d()", 10) + ";a()=" + Check.sum("c()", 9) + ";b()=(a()+d());", "a()");
        Check.due("100 calls", x.run(0, 0), 0);
        Check.due("100 calls", x.run(0, 1), 100);
        Check.due("at once", x.run(0, 5), 3);
        Check.task(x, "b()");
        Check.due("101 calls", x.run(0, 0), 1);
        Check.due("101 calls", x.run(0, 1), 100);
        Check.program(x, "d()=1;c()=" + Check.sum("d()", 10) + ";a()=" + Check.sum("c()", 9) + ";b()=(a()+e());");
        Check.due("not told is asked ahead", x.run(0, 0), 1);
        Check.program(x, "d()=1;c()=" + Check.sum("d()", 10) + ";a()=(" + Check.sum("c()", 9) + "+e());");
        Check.task(x, "a()");
        Check.due("4 ahead of 1", x.run(0, 0), 4);
        Check.due("4 ahead of 1", x.run(0, 1), 100);

        // arguments are worked ahead of the call
        x = Check.with("a()=e(!7);b()=e(b());", "a()");
        Check.due("not told", x.run(0, 0), 4);
        Check.due("its argument was worked", x.output(0, 1), 7);
        Check.task(x, "b()");
        Check.due("too deep ahead of not told", x.run(0, 0), 3);

        // WEIGHT: a(3) is a PAIR of 15, a(4) of 31
        x = Check.with("a(x)=?(x,:y=a((x-1)),[y,y],0);b(x)=[[a(4),0],x];", "a(*)");
        Check.values(x, "4");
        Check.due("WEIGHT 31", x.run(0, 3), 31);
        Check.due("DEEP 4", x.run(0, 4), 4);
        Check.values(x, "5");
        Check.due("WEIGHT 63", x.run(0, 0), 2);
        Check.task(x, "b(*)");
        Check.values(x, "[1,[2,3]]");
        Check.due("WEIGHT 39", x.run(0, 3), 39);
        Check.values(x, "[[1,2],[2,3]]");
        Check.due("WEIGHT 41", x.run(0, 0), 2);

        // an argument of THE TASK
        String heavy = "[[[1,2],[3,4]],[[5,6],[7,8]]]";
        x = Check.with("a(x)=x;", "a([[*,*],[*,0]])");
        Check.values(x, "[1,2],[[1,2],[3,4]]," + heavy);
        Check.due("an argument's WEIGHT is 29", x.run(0, 3), 3 + 1 + 3 + 7 + 15);
        Check.task(x, "a([[*,[[0,0],[0,0]]],[[0,[1,1]],[[*,1],[1,1]]]])");
        Check.values(x, heavy + "," + heavy);
        Check.due("an argument's WEIGHT is above 40", x.run(0, 0), 2);
        Check.due("at once", x.run(0, 1), 0);
        Check.task(x, "k([[*,[[0,0],[0,0]]],[[0,[1,1]],[[*,1],[1,1]]]])");
        Check.values(x, heavy + "," + heavy);
        Check.due("ahead of not told", x.run(0, 0), 2);
    }

    // 16, 17
    private static void outputsAndPlaces() {
        OnlineParts x = new OnlineParts();
        Check.due("output ahead of any", x.output(0, 1), NONE);
        Check.due("place ahead of any", x.place(4), 0);
        Check.program(x, "a(x)=?(x,[![!1.5,2],[&3-7.9,[&5-1,a((x-1))]]],0);b(x)=(!&1x+b((x+1)));");
        Check.task(x, "a(1)");
        Check.due("run", x.run(0, 2), 2);
        Check.due("output(0, 0)", x.output(0, 0), 1);
        Check.due("output(0, 1)", x.output(0, 1), Float.floatToIntBits(1.5f));
        Check.due("output(1, 0)", x.output(1, 0), 1);
        Check.due("output(2, 0)", x.output(2, 0), NONE);
        Check.due("output(-1, 0)", x.output(-1, 0), NONE);
        Check.due("output(0, 2)", x.output(0, 2), NONE);
        Check.due("output(0, -1)", x.output(0, -1), NONE);
        Check.due("place(3)", x.place(3), -7);
        Check.due("place(5)", x.place(5), Float.floatToIntBits(-1f));
        Check.due("place(0)", x.place(0), 0);
        Check.due("place(-1)", x.place(-1), 0);
        Check.due("place(8)", x.place(8), 0);
        x.specialise();
        x.agree();
        x.saved();
        x.run(0, 9);
        x.run(7, 0);
        Check.due("no other call is a run()", x.output(0, 1), Float.floatToIntBits(1.5f));
        Check.task(x, "b(-1)");
        Check.due("none of these", x.run(0, 6) + x.run(0, -1) + x.run(0, Integer.MAX_VALUE) + x.run(1, 0), 4 * NONE);
        Check.due("stays until the next", x.place(3), -7);
        Check.due("stays until the next", x.output(0, 1), Float.floatToIntBits(1.5f));
        Check.due("ends by 3", x.run(0, 0), 3);
        Check.due("numbers WRITTEN", x.run(0, 2), 30);
        Check.due("as a number, too", x.output(0, 1), -1);
        Check.due("what was put until then", x.place(1), 28);
        Check.due("PLACES are new in each RUN", x.place(3), 0);

        StringBuilder many = new StringBuilder();
        for (int k = 0; k < 20; k++) {
            many.append('!');
        }
        x = Check.with("a(x)=" + many.substring(1) + "x;b(x)=((a(x)+a((x+1)))+(a((x+2))+a((x+3))));", "b(1)");
        Check.due("76 numbers", x.run(0, 2), 76);
        Check.due("the 60th", x.output(59, 1), 4);
        Check.due("58th", x.output(56, 1), 3);
        Check.due("60 are kept", x.output(60, 1), NONE);
    }

    // 18, 20
    private static void valueAndOctets() {
        OnlineParts x = new OnlineParts();
        Check.due("value ahead of any", x.value(), NONE);
        Check.due("octet ahead of any", x.octet(0), NONE);
        Check.program(x, "a(x)=[[-5,2.5],[x,(0-x)]];b()=c();");
        Check.task(x, "a([0,-3])");
        x.run(0, 0);
        Check.due("value", x.value(), 29);
        Check.due("octets", Check.written(x, 29), "[[-5,f1075838976],[[0,-3],0]]");
        Check.due("octet behind", x.octet(29), NONE);
        Check.due("octet(-1)", x.octet(-1), NONE);
        Check.task(x, "b()");
        Check.due("not DONE", x.run(0, 0), 4);
        Check.due("the latest that was DONE", x.value(), 29);
        x.specialise();
        Check.due("write", x.write(0), 12);
        Check.due("written latest", Check.written(x, 12), "b()=r0=-;r0;");
        Check.due("write of none", x.write(1), NONE);
        Check.due("written latest", x.octet(4), 'r');
        x = Check.with("a()=(-99999*-99999);b()=(0-(-32768*65536));", "b()");
        x.run(0, 0);
        Check.due("the least INT", Check.value(x), "-2147483648");
    }

    private static void isText(String program, String task, String... want) {
        Check.texts(Check.with(program, task), program + " " + task, want);
    }

    // III, 11, 19
    private static void specialising() {
        isText("a()=1;", "a()", "a()=1;");
        isText("a(x)=[x,2.5];", "a(*)", "a(*)=r1=[r0,f1075838976];r1;");
        isText("a(x,y)=x;", "a([*,[1,*]],-4)", "a([*,[1,*]],-4)=r2=[1,r1];r3=[r0,r2];r3;");
        isText("a(x)=($x+(^x-#x));", "a(*)", "a(*)=r1=$r0;r2=^r0;r3=#r0;r4=(r2-r3);r5=(r1+r4);r5;");
        isText("a(x)=[@x,~x];", "a(*)", "a(*)=r1=@r0;r2=~r0;r3=[r1,r2];r3;");
        isText("a(x)=[@x,~x];", "a([5,*])", "a([5,*])=r1=[5,r0];r1;");
        isText("a(x)=(@~x+~3);", "a(4)", "a(4)=0;");
        // NUM of a PAIR is that of its first
        isText("a(x)=(x+1);", "a([*,7])", "a([*,7])=r1=(r0+1);r1;");
        isText("a(x)=(x+1);", "a([7,*])", "a([7,*])=8;");
        isText("a(x)=!x;", "a([7,*])", "a([7,*])=!7;r1=[7,r0];r1;");
        isText("a(x)=[&3x,[_3,&7x]];", "a(2.5)",
            "a(f1075838976)=r0=&3f1075838976;r1=_3;r2=&7f1075838976;r3=[r1,f1075838976];r4=[2,r3];r4;");
        isText("a(x)=&3x;", "a(*)", "a(*)=r1=&3r0;r1;");
        isText("a(x)=:y=(x+1),(y*y);", "a(*)", "a(*)=r1=(r0+1);r2=(r1*r1);r2;");
        isText("a(x)=(x<(1=1));", "a(*)", "a(*)=r1=(r0<1);r1;");
        isText("a(x)=(b(!x)+1);", "a(*)", "a(*)=!r0;r1=-;r2=(r1+1);r2;");
        // unrolled calls take SYMBOLS
        isText("a(x)=b([x,3]);b(x)=(@x*~x);", "a(*)", "a(*)=r1=(r0*3);r1;");
        Check.due("not told", Check.with("a()=1;", "a(1)").specialise(), -6);
        OnlineParts x = Check.with("a()=1;", "a()");
        Check.due("specialise", x.specialise(), 1);
        Check.due("write(-1)", x.write(-1), NONE);
        Check.due("write(1)", x.write(1), NONE);
        Check.program(x, "b()=1;");
        Check.due("write without a RESIDUE", x.write(0), NONE);
        Check.due("specialise", x.specialise(), -6);
    }

    private static void choices() {
        isText("a(x)=?(x,1,2);", "a(*)", "a(*)=r1=?r0{1}{2};r1;");
        isText("a(x)=?(x,1,1);", "a(*)", "a(*)=r1=?r0{1}{1};1;");
        isText("a(x)=?(x,1,1.0);", "a(*)", "a(*)=r1=?r0{1}{f1065353216};r1;");
        isText("a(x)=?(x,(0*-1.0),0.0);", "a(*)", "a(*)=r1=?r0{f-2147483648}{f0};r1;");
        isText("a(x)=(?(x,!7,7)+1);", "a(*)", "a(*)=r1=?r0{!7;7}{7};8;");
        isText("a(x)=?(x,x,x);", "a(*)", "a(*)=r1=?r0{r0}{r0};r1;");
        isText("a(x)=?(x,[1,2],[(x+1),2]);", "a([*,5])",
            "a([*,5])=r4=?r0{r1=[1,2];r1}{r2=(r0+1);r3=[r2,2];r3};r4;");
        isText("a(x)=?(2.5,!1,!x);", "a(*)", "a(*)=!1;1;");
        isText("a(x,y)=?(x,?(y,1,(x+y)),3);", "a(*,*)",
            "a(*,*)=r4=?r0{r3=?r1{1}{r2=(r0+r1);r2};r3}{3};r4;");
        // a call that is UNROLLED behind a ? and outside of it
        isText("a(x)=(?(x,1,2)+b(x));b(x)=(x*2);", "a(*)", "a(*)=r1=?r0{1}{2};r2=(r0*2);r3=(r1+r2);r3;");
    }

    private static void callsLeft() {
        // in a BLOCK no call is UNROLLED
        isText("a(x)=?(x,b(x),0);b(x)=(x*2);", "a(*)", "a(*)=r2=?r0{r1=c1(r0);r1}{0};r2;", "b(*)=r1=(r0*2);r1;");
        isText("a(x)=?(x,b(3),b([x,1]));b(x)=(x*2);", "a(*)",
            "a(*)=r3=?r0{r1=c1();r1}{r2=c2(r0);r2};r3;", "b(3)=6;", "b([*,1])=r1=(r0*2);r1;");
        // no more than UNROLL in one another
        OnlineParts x = Check.with("a(x)=b((x+1));b(x)=d((x+1));d(x)=(x+1);", "a(*)");
        x.set(0, 1);
        Check.texts(x, "UNROLL 1", "a(*)=r1=(r0+1);r2=(r1+1);r3=c1(r2);r3;", "d(*)=r1=(r0+1);r1;");
        x.set(0, 0);
        Check.texts(x, "UNROLL 0", "a(*)=r1=(r0+1);r2=c1(r1);r2;", "b(*)=r1=(r0+1);r2=c2(r1);r2;", "d(*)=r1=(r0+1);r1;");
        // an argument's call doesn't lie in the call
        x = Check.with("a(x)=b(b(x));b(x)=(x+1);", "a(*)");
        x.set(0, 1);
        Check.texts(x, "arguments", "a(*)=r1=(r0+1);r2=(r1+1);r2;");
        // numbers are remembered by their kind and bits
        x = Check.with("a(x)=[b(1),[b(1.0),[b(1),[b(0.0),b((0*-1.0))]]]];b(x)=_1;", "a(*)");
        x.set(0, 0);
        x.set(1, 6);
        Check.due("VARIANTS by kind and bits", x.specialise(), 5);
        Check.due("calls of b(1)", x.variant(1, 5), 2);
        Check.due("b(-0.0)", Check.text(x, 4), "b(f-2147483648)=r0=_1;r0;");
        // functions by letter and how many arguments
        x = Check.with("a(x)=(a()+a(x,x));a()=_1;a(x,y)=_2;", "a(*)");
        x.set(0, 0);
        Check.texts(x, "a of 0, 1, 2", "a(*)=r1=c1();r2=c2(r0,r0);r3=(r1+r2);r3;", "a()=r0=_1;r0;", "a(*,*)=r2=_2;r2;");
    }

    private static OnlineParts growing(String program, String task) {
        OnlineParts x = Check.with(program, task);
        x.set(0, 0);
        x.set(1, 6);
        return x;
    }

    private static void grown() {
        isText("b(x,y)=?(y,b((x+1),(y-1)),x);", "b(0,*)",
            "b(0,*)=r3=?r0{r1=(r0-1);r2=c1(1,r1);r2}{0};r3;",
            "b(*,*)=r5=?r1{r2=(r0+1);r3=(r1-1);r4=c1(r2,r3);r4}{r0};r5;");
        // a number that gets smaller stays
        OnlineParts x = growing("a(x)=?(x,a((x-1)),9);", "a(3)");
        Check.due("smaller", x.specialise(), 4);
        Check.due("GROWN", x.residue(8), 0);
        Check.due("smaller", Check.text(x, 3), "a(0)=9;");
        Check.due("came by", x.variant(3, 4), 2);
        // of another sign, as great: let go; another kind, as great: let go; the same: stays
        x = growing("a(x)=a((0-x));", "a(3)");
        Check.texts(x, "sign", "a(3)=r0=c1(-3);r0;", "a(*)=r1=(0-r0);r2=c1(r1);r2;");
        x = growing("a(x)=a(^x);", "a(3)");
        Check.texts(x, "kind", "a(3)=r0=c1(f1077936128);r0;", "a(*)=r1=^r0;r2=c1(r1);r2;");
        x = growing("a(x)=a(x);", "a(3)");
        Check.texts(x, "same", "a(3)=r0=c0();r0;");
        Check.due("GROWN", x.residue(8), 0);
        // nan isn't below: nor is another below nan
        x = growing("a(x)=a((0.0/0.0));", "a(3)");
        Check.texts(x, "nan", "a(3)=r0=c1(f2143289344);r0;", "a(*)=r1=c1(f2143289344);r1;");
        Check.due("GROWN, beside VARIANT 0 each time", x.residue(8), 2);
        x = growing("a(x)=b((0.0/0.0));b(x)=?((x=1),0,b(1));", "a(1)");
        Check.texts(x, "beside nan", "a(1)=r0=c1();r0;", "b(f2143289344)=r0=c2(1);r0;",
            "b(*)=r1=(r0=1);r3=?r1{0}{r2=c2(1);r2};r3;");
        // a PAIR where a number is: let go, it counts 1
        x = growing("a(x)=a([x,[1,2]]);", "a(5)");
        Check.texts(x, "PAIR", "a(5)=r0=[1,2];r1=[5,r0];r2=c1(r1);r2;",
            "a(*)=r1=[1,2];r2=[r0,r1];r3=c1(r2);r3;");
        Check.due("GROWN", x.residue(8), 2);
        // beside a * a PAIR stays
        x = growing("a(x)=?(@x,a([x,1]),0);", "a(*)");
        x.set(1, 2);
        Check.texts(x, "PAIR beside *", "a(*)=r1=@r0;r3=?r1{r2=c1(r0);r2}{0};r3;",
            "a([*,1])=r4=?r0{r1=[r0,1];r2=[r1,1];r3=c0(r2);r3}{0};r4;");
        Check.due("GROWN", x.residue(8), 0);
        Check.due("calls all *", x.residue(9), 1);
        // PAIRS: both parts
        x = growing("a(x)=a([(@x+1),(~x-1)]);", "a([5,3])");
        Check.due("parts", x.specialise(), 5);
        Check.due("parts", Check.text(x, 1), "a([*,2])=r1=(r0+1);r2=c2(r1);r2;");
        Check.due("parts", Check.text(x, 3), "a([*,0])=r1=(r0+1);r2=c4(r1,-1);r2;");
        Check.due("GROWN", x.residue(8), 2);
        // a number where a PAIR is, or where a * is, stays
        x = growing("a(x)=?(x,a(7),0);", "a([*,1])");
        Check.texts(x, "number beside PAIR", "a([*,1])=r2=?r0{r1=c1();r1}{0};r2;", "a(7)=r0=c1();r0;");
        // the way goes up to VARIANT 0 by what came first, through other functions
        x = growing("a(x)=b((x+1));b(x)=a((x+1));", "a(1)");
        Check.texts(x, "through another", "a(1)=r0=c1();r0;", "b(2)=r0=c2(3);r0;",
            "a(*)=r1=(r0+1);r2=c3(r1);r2;", "b(*)=r1=(r0+1);r2=c2(r1);r2;");
        // a sister is not on the way
        x = growing("a(x)=[b(1),b(2)];b(x)=_0;", "a(*)");
        Check.due("sisters", x.specialise(), 3);
        Check.due("GROWN", x.residue(8), 0);
    }

    private static void letGo() {
        // too many VARIANTS of a function
        OnlineParts x = Check.with("a(x)=[b(1,x),[b(2,x),[b(3,x),b(2,7)]]];b(x,y)=(x+y);", "a(*)");
        x.set(0, 0);
        x.set(1, 2);
        Check.texts(x, "VARIANTS 2",
            "a(*)=r1=c1(r0);r2=c2(r0);r3=c3(3,r0);r4=c3(2,7);r5=[r3,r4];r6=[r2,r5];r7=[r1,r6];r7;",
            "b(1,*)=r1=(1+r0);r1;", "b(2,*)=r1=(2+r0);r1;", "b(*,*)=r2=(r0+r1);r2;");
        Check.due("calls all *", x.residue(9), 2);
        Check.due("GROWN", x.residue(8), 0);
        // one that is there stays
        x.set(1, 3);
        Check.program(x, "a(x)=[b(1),[b(2),[b(3),[b(4),b(2)]]]];b(x)=_0;");
        Check.due("VARIANTS 3", x.specialise(), 5);
        Check.due("calls of b(2)", x.variant(2, 5), 2);
        Check.due("calls all *", x.residue(9), 1);

        // BUDGET: 9 INSTRUCTIONS, then calls
        String nine = Check.sum("_0", 5);
        x = Check.with("a()=(" + nine + "+b(1));b(x)=x;", "a()");
        x.set(0, 0);
        x.set(2, 10);
        Check.due("CODE 9", x.specialise(), 2);
        Check.due("CODE 9", x.residue(9), 0);
        Check.due("CODE 9", Check.text(x, 1), "b(1)=1;");
        Check.program(x, "a()=((" + nine + "+_0)+b(1));b(x)=x;");
        x.specialise();
        Check.due("CODE 11", x.residue(9), 1);
        Check.due("CODE 11", Check.text(x, 1), "b(*)=r0;");
        Check.program(x, "a()=(!" + nine + "+b(1));b(x)=x;");
        x.specialise();
        Check.due("CODE 10", x.residue(9), 1);
        // a VARIANT that is there is taken, whatever CODE is
        Check.program(x, "a()=(b(1)+(" + nine + "+[b(1),b(2)]));b(x)=x;");
        x.specialise();
        Check.due("there already", x.variant(1, 5), 2);
        Check.due("there already", x.residue(9), 1);
        // the INSTRUCTION 6 comes behind its BLOCKS
        Check.program(x, "a(x)=?(" + nine + ",b(1),0);b(x)=x;");
        Check.task(x, "a(*)");
        x.specialise();
        Check.due("in a BLOCK", x.residue(9), 0);

        // more than 8 *
        x = Check.with("a(x,y)=b([[x,y],[x,y]],[[x,y],[x,y]],1);b(x,y,z)=z;", "a(*,*)");
        x.set(0, 0);
        Check.texts(x, "8 *", "a(*,*)=r2=c1(r0,r1,r0,r1,r0,r1,r0,r1);r2;", "b([[*,*],[*,*]],[[*,*],[*,*]],1)=1;");
        Check.program(x, "a(x,y)=b([[x,y],x],[[x,y],[x,[y,y]]],[x,1]);b(x,y,z)=z;");
        Check.texts(x, "9 *", "a(*,*)=r2=[r0,r1];r3=[r2,r0];r4=[r0,r1];r5=[r1,r1];r6=[r0,r5];r7=[r4,r6];r8=[r0,1];"
            + "r9=c1(r3,r7,r8);r9;", "b(*,*,*)=r2;");
        Check.due("9 *", x.residue(9), 1);
    }

    // 12, 13, 14
    private static void residueAndVariants() {
        OnlineParts x = Check.with("a(x,y)=?(x,[!y,&1x],b(_4,y));b(x,y)=d($x,@y);d(x,y)=[^x,[#x,~y]];", "a(*,[3,2.5])");
        Check.due("specialise", x.specialise(), 2);
        // a: !3 &1 [3,2.5]? : the PAIR's first is lifted: [3,2.5], then [r,r1]; _4, c1, 6
        Check.due("a", Check.text(x, 0),
            "a(*,[3,f1075838976])=r6=?r0{!3;r1=&1r0;r2=[3,f1075838976];r3=[r2,r1];r3}{r4=_4;r5=c1(r4);r5};r6;");
        Check.due("b", Check.text(x, 1), "b(*,[3,f1075838976])=r1=$r0;r2=^r1;r3=#r1;r4=[r3,0];r5=[r2,r4];r5;");
        int[] of = {2, 12, 1, 1, 1, 2, 4, 1, 0, 0, NONE};
        for (int what = 0; what < of.length; what++) {
            Check.due("residue(" + what + ")", x.residue(what), of[what]);
        }
        Check.due("residue(-1)", x.residue(-1), NONE);
        int[][] ofVariants = {{1, 7, 1, 7, NONE, 0, 2, NONE}, {2, 6, 1, 5, 0, 1, 2, NONE}};
        int[][] kinds = {{0, 0, 0, 0, 0, 0, 1, 1, 1, 1, 2, 1, 0, NONE}, {0, 1, 1, 1, 0, 0, 0, 0, 0, 0, 2, 0, 0, NONE}};
        for (int k = 0; k < 2; k++) {
            for (int what = 0; what < ofVariants[k].length; what++) {
                Check.due("variant(" + k + "," + what + ")", x.variant(k, what), ofVariants[k][what]);
            }
            for (int kind = 0; kind < kinds[k].length; kind++) {
                Check.due("kinds(" + k + "," + kind + ")", x.kinds(k, kind), kinds[k][kind]);
            }
        }
        Check.due("variant(0, -1)", x.variant(0, -1), NONE);
        Check.due("variant(-1, 0)", x.variant(-1, 0), NONE);
        Check.due("variant(2, 0)", x.variant(2, 0), NONE);
        Check.due("kinds(0, -1)", x.kinds(0, -1), NONE);
        Check.due("kinds(-1, 0)", x.kinds(-1, 0), NONE);
        Check.due("kinds(2, 0)", x.kinds(2, 0), NONE);
        x.set(2, 120);
        Check.due("variant without a RESIDUE", x.variant(0, 0), NONE);
        Check.due("kinds without a RESIDUE", x.kinds(0, 0), NONE);
    }

    // 21, 22
    private static void agreeAndSaved() {
        OnlineParts x = Check.with("a(x,y)=?(x,(y+a((x-1),y)),0);", "a(3,*)");
        Check.values(x, "5");
        Check.due("without a RESIDUE", x.agree(), NONE);
        Check.due("without a RESIDUE", x.saved(), -1000);
        x.specialise();
        Check.due("agree", x.agree(), 1);
        Check.due("saved", x.saved(), 3);
        Check.task(x, "a(*,3)");
        x.specialise();
        Check.due("VALUES not told", x.agree(), NONE);
        Check.values(x, "30");
        Check.due("both too deep", x.agree(), 1);
        Check.due("both too deep", x.saved(), -1000);
        // the source is too deep, what is left over is not
        Check.program(x, "a(x,y)=?(x,b((x-1),y),y);b(x,y)=d(a(x,y));d(x)=x;");
        Check.values(x, "15");
        x.specialise();
        Check.due("in b, a and d are UNROLLED", x.residue(2), 2);
        Check.due("the source ends", x.run(0, 0), 3);
        // the source makes a PAIR that is too heavy, the RESIDUE never lifts it
        x = Check.with("a(x)=@[1,[x,x]];", "a(*)");
        Check.values(x, "[[[[1,1],[1,1]],[[1,1],[1,1]]],[[1,1],1]]");
        Check.due("specialise", x.specialise(), 1);
        Check.due("too heavy", x.run(0, 0), 2);
        Check.due("not lifted", x.run(1, 0), 0);
        Check.due("they don't agree", x.agree(), 0);
        Check.due("one isn't DONE", x.saved(), -1000);
        Check.values(x, "1");
        Check.due("they agree", x.agree(), 1);
        Check.due("saved", x.saved(), 0);
        // both end by 3, with other OUTPUTS
        x = Check.with("a(x)=(!1+a(x));", "a(*)");
        Check.values(x, "1");
        x.set(0, 0);
        x.specialise();
        Check.due("like OUTPUTS", x.agree(), 1);
        x.set(0, 1);
        x.specialise();
        Check.due("unlike OUTPUTS", x.run(1, 2), 60);
        Check.due("unlike OUTPUTS", x.agree(), 0);
        // more than are kept don't count
        Check.program(x, "a(x)=(!!1+a(x));");
        x.specialise();
        Check.due("60 kept of each", x.agree(), 1);
        // PLACES alone
        x = Check.with("a(x)=(&1(_1+1)+a(x));", "a(*)");
        Check.values(x, "1");
        x.set(0, 0);
        x.specialise();
        Check.due("like PLACES", x.agree(), 1);
        x.set(0, 1);
        x.specialise();
        Check.due("unlike PLACES", x.agree(), 0);
        // a call that is let go costs nothing more; saved may be 0
        x = Check.with("a(x)=?(x,a((x-1)),7);", "a(*)");
        Check.values(x, "5");
        x.specialise();
        Check.due("saved", x.saved(), 0);
    }

    // 23 (the rest is in FloatTest)
    private static void ops() {
        OnlineParts x = new OnlineParts();
        int one = 0x3f800000;
        int two = 0x40000000;
        Check.due("1+2", x.op(one, '+', two), 0x40400000);
        Check.due("1-2", x.op(one, '-', two), 0xbf800000);
        Check.due("2*2", x.op(two, '*', two), 0x40800000);
        Check.due("1/2", x.op(one, '/', two), 0x3f000000);
        Check.due("7.5%2", x.op(0x40f00000, '%', two), 1);
        Check.due("1%0.5", x.op(one, '%', 0x3f000000), 0);
        Check.due("1<2", x.op(one, '<', two), 1);
        Check.due("2=2", x.op(two, '=', two), 1);
        Check.due("nan+1", x.op(0xff912345, '+', one), 0x7fc00000);
        Check.due("inf-inf", x.op(0x7f800000, '-', 0x7f800000), 0x7fc00000);
        Check.due("1?2", x.op(one, '?', two), 0);
        Check.due("1>2", x.op(one, '>', two), 0);
    }
}
