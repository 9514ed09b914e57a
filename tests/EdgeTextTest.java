/**
 * The edges that the document names for the texts of the tape (promises 4 to 7, 10; "Terms" I and the
 * TASK of III): at the edge, one below and one above it. A ' stands ahead of the byte of the FAULT.
 */
final class EdgeTextTest {
    private static final String ALL =
        "a()=1;a(x)=:y=-12.50,[x,(y+2)];l(m,n,o,p,z)=?((m<n),a(),l(1,!2,@3,~4,$^#5));b()=[&0_7,&7_0];c()=((1-2)*(3/(4%(5=6))));";

    public static void main(String[] args) {
        numbers();
        letters();
        places();
        argumentCounts();
        toldAgain();
        varsToldWhereTheyStand();
        endsTooEarly();
        noBlanks();
        thingsOfAFunction();
        thingsInOthers();
        functionCounts();
        tasks();
        values();
        faultsKeepAll();
        faultOfTheLatest();
        Check.close("EdgeTextTest");
    }

    private static void program(String sentence, String marked) {
        Check.programGoes(sentence, marked);
    }

    private static void expression(String sentence, String marked) {
        Check.programGoes(sentence, "a(x)=" + marked);
    }

    private static void task(String sentence, String marked, int leaves) {
        Check.taskGoes(sentence, marked, leaves);
    }

    private static void values(String sentence, String task, String marked) {
        Check.valuesGo(sentence, task, marked);
    }

    private static void numbers() {
        String digits = "1 to 5 digits";
        expression(digits, "-';");
        expression(digits, "1;");
        expression(digits, "-1;");
        expression(digits, "1234;");
        expression(digits, "12345;");
        expression(digits, "-12345;");
        expression(digits, "12345'6;");
        expression(digits, "-12345'6;");
        expression(digits, "00000;");
        expression(digits, "00000'0;");
        String broken = ". and 1 to 3 digits behind that";
        expression(broken, "1.';");
        expression(broken, "1.2;");
        expression(broken, "1.23;");
        expression(broken, "1.234;");
        expression(broken, "1.234'5;");
        expression(broken, "-12345.678;");
        expression(broken, "12345.678'9;");
        expression(broken, "'.5;");
        expression(broken, "-'.5;");
        expression(broken, "1.'-5;");
        expression(broken, "1.2'.3;");
        String around = "a digit is 0 to 9";
        expression(around, "1'/;");
        expression(around, "1':;");
        expression(around, "0;");
        expression(around, "9;");
        expression(around, "'/;");
        expression(around, "1.'/;");
        expression(around, "1.':;");
        expression(around, "1.0;");
        expression(around, "1.9;");
        expression("perhaps one -", "-'-1;");
        expression("perhaps one -", "'+1;");
    }

    private static void letters() {
        program("f a letter a .. l", "'`()=1;");
        program("f a letter a .. l", "a()=1;");
        program("f a letter a .. l", "l()=1;");
        program("f a letter a .. l", "'m()=1;");
        expression("f a letter a .. l", "'`();");
        expression("f a letter a .. l", "a();");
        expression("f a letter a .. l", "l();");
        expression("f a letter a .. l", "'m();");
        program("VARS m .. z", "a('l)=1;");
        program("VARS m .. z", "a(m)=m;");
        program("VARS m .. z", "a(z)=z;");
        program("VARS m .. z", "a('{)=1;");
        expression("VARS m .. z", ":'l=1,1;");
        expression("VARS m .. z", ":m=1,m;");
        expression("VARS m .. z", ":z=1,z;");
        expression("VARS m .. z", ":'{=1,1;");
        for (int c = 0; c < 256; c++) {
            boolean begins = c >= '0' && c <= '9' || c >= 'a' && c <= 'l' || c == 'x' || "-($^#@~[?!&_:".indexOf(c) >= 0;
            int at = begins ? 6 : 5;
            OnlineParts x = new OnlineParts();
            Check.program(x, "a(x)=" + (char) c);
            Check.due("what begins an EXPRESSION " + c, x.fault(), at);
            boolean sign = "+-*/%<=".indexOf(c) >= 0;
            Check.program(x, "a(x)=(x" + (char) c);
            Check.due("o is + - * / % < = " + c, x.fault(), sign ? 8 : 7);
        }
    }

    private static void places() {
        String d = "d 0 .. 7";
        expression(d, "&'/1;");
        expression(d, "&01;");
        expression(d, "&71;");
        expression(d, "&'81;");
        expression(d, "_'/;");
        expression(d, "_0;");
        expression(d, "_7;");
        expression(d, "_'8;");
        expression(d, "_'");
        expression(d, "&'");
        expression("one digit", "_0'0;");
        expression("one digit", "&00;");
        expression("&d wants an E", "&0';");
    }

    private static void argumentCounts() {
        String left = "VARS 0 to 5";
        program(left, "a()=1;");
        program(left, "a(m)=1;");
        program(left, "a(m,n,o,p)=1;");
        program(left, "a(m,n,o,p,q)=1;");
        program(left, "a(m,n,o,p,q',r)=1;");
        program(left, "a(',m)=1;");
        program(left, "a(m,')=1;");
        String right = "0 to 5 arguments";
        expression(right, "a();");
        expression(right, "a(1);");
        expression(right, "a(1,2,3,4);");
        expression(right, "a(1,2,3,4,5);");
        expression(right, "a(1,2,3,4,5',6);");
        expression(right, "a(',1);");
        expression(right, "a(1,');");
        String asked = "f(P,..)";
        task(asked, "a()", 0);
        task(asked, "a(*,*,*,*)", 4);
        task(asked, "a(*,*,*,*,*)", 5);
        task(asked, "a(*,*,*,*,*',*)", 0);
        task(asked, "a(',*)", 0);
        task(asked, "a(*,')", 0);
    }

    private static void toldAgain() {
        String again = "a function told again, at its letter";
        String six = "a()=1;a(m)=1;a(m,n)=1;a(m,n,o)=1;a(m,n,o,p)=1;a(m,n,o,p,q)=1;";
        program("by letter and how many arguments", six);
        program("by letter and how many arguments", six + six.replace('a', 'b'));
        for (String f : six.split("(?<=;)")) {
            program(again, six + "'" + f);
            program("asked as its = stands there", six + "'" + f.substring(0, f.indexOf('=') + 1));
            program("asked as its = stands there", six + f.substring(0, f.indexOf('=')) + "'");
            program("asked as its = stands there", six + f.substring(0, f.indexOf('=')) + "':");
        }
        program("VARS of other names", "a(x)=1;'a(y)=1;");
        program("in its own E it may be called", "a(x)=a(x);");
        program("ahead of what is wrong behind =", "a()=1;'a()=;");
        program("behind a VAR told twice", "a(x,y)=1;a(x,'x)=1;");
        OnlineParts x = new OnlineParts();
        Check.due("12 letters with 0 arguments, and 12 with 1", Check.program(x, manyFunctions()), 24);
        Check.due("is(0)", x.is(0), 24);
        Check.due("the last one's letter", x.function(23, 0), 12);
        Check.due("the last one's arguments", x.function(23, 1), 1);
        Check.due("behind the last one", x.function(24, 0), -1);
    }

    private static String manyFunctions() {
        StringBuilder b = new StringBuilder();
        for (char f = 'a'; f <= 'l'; f++) {
            b.append(f).append("()=1;");
        }
        for (char f = 'a'; f <= 'l'; f++) {
            b.append(f).append("(x)=1;");
        }
        return b.toString();
    }

    private static void varsToldWhereTheyStand() {
        String twice = "a VAR on the left a second time, at its byte";
        program(twice, "a(x,'x)=1;");
        program(twice, "a(x,y,'x)=1;");
        program(twice, "a(m,n,o,p,'p)=1;");
        program("of each function by itself", "a(x)=x;b(x)=x;");
        String told = "a VAR not told where it stands, at its byte";
        program(told, "a()='x;");
        program(told, "a(x)='y;");
        program(told, "a(x)=x;b()='x;");
        program(told, "a(x)=[x,'y];");
        program("VAR v within the second one", "a()=:x='x,x;");
        program("VAR v within the second one", "a()=:x=1,x;");
        program("VAR v within the second one", "a()=[:x=1,x,'x];");
        program("VAR v within the second one", "a()=[:x=1,2,'x];");
        program("VAR v within the second one", "a()=:x=:y=1,y,'y;");
        program("VAR v within the second one", "a()=:x=:y=1,y,x;");
        program("one told on the left may be told by : too", "a(x)=[:x=2,x,x];");
    }

    /** Of a text that is well each beginning goes on, so that its FAULT is its length. */
    private static void endsTooEarly() {
        for (int n = 0; n <= ALL.length(); n++) {
            String begin = ALL.substring(0, n);
            boolean well = begin.isEmpty() || begin.endsWith(";");
            program("its length, if it ends too early", well ? begin : begin + "'");
        }
        String task = "l(-12.50,[*,[1,*]],2,*,[3.001,-4])";
        for (int n = 0; n < task.length(); n++) {
            task("its length, if it ends too early", task.substring(0, n) + "'", 0);
        }
        task("it ends there", task, 3);
        task("it ends there", task + "'" + "(", 0);
        task("it ends there", task + "'" + ";", 0);
        String told = "[-1.5,[2,3]],4,5";
        for (int n = 0; n < told.length(); n++) {
            values("its length, if it ends too early", task, told.substring(0, n) + "'");
        }
        values("it ends there", task, told);
        values("it ends there", task, told + "'" + ",");
    }

    /** A blank (and a byte 0, a byte 255) goes nowhere. */
    private static void noBlanks() {
        for (int n = 0; n <= ALL.length(); n++) {
            for (char c : new char[] {' ', 0, 255}) {
                program("No blanks", ALL.substring(0, n) + "'" + c + ALL.substring(n));
            }
        }
        String task = "l(-12.50,[*,1])";
        String told = "[-1.5,2]";
        for (int n = 0; n <= task.length(); n++) {
            task("No blanks", task.substring(0, n) + "' " + task.substring(n), 0);
        }
        for (int n = 0; n <= told.length(); n++) {
            values("No blanks", task, told.substring(0, n) + "' " + told.substring(n));
        }
    }

    /** An E of n things: NUMBERS in PAIRS, one more with a ! where that is asked. */
    private static String thingsOf(int n) {
        if (n == 1) {
            return "1";
        }
        if (n % 2 == 0) {
            return "!" + thingsOf(n - 1);
        }
        int half = (n - 1) / 2;
        return "[" + thingsOf(half) + "," + thingsOf(n - 1 - half) + "]";
    }

    private static void thingsOfAFunction() {
        String most = "the 81st of its function, at its first byte";
        for (int n = 1; n <= 80; n++) {
            OnlineParts x = Check.with("a()=" + thingsOf(n) + ";");
            Check.due("function(0, 2)", x.function(0, 2), n);
            Check.due("is(7)", x.is(7), n);
        }
        // 78 things and a PAIR's sign: what is second in it is the 80th and 81st
        String ahead = "[" + thingsOf(78) + ",";
        String[] things = {"1", "-1.5", "x", "(x+1)", "$1", "^1", "#1", "@1", "~1", "[1,1]", "?(1,1,1)", "!1", "&01", "_0", ":y=1,1", "a()"};
        for (String thing : things) {
            boolean one = thing.equals("1") || thing.equals("-1.5") || thing.equals("x") || thing.equals("_0") || thing.equals("a()");
            int second = thing.startsWith("&") ? 2 : thing.startsWith(":") ? 3 : thing.startsWith("?") ? 2 : 1;
            program(most, "a(x)=" + ahead + (one ? thing : thing.substring(0, second) + "'" + thing.substring(second)) + "];");
            program(most, "a(x)=!" + ahead + "'" + thing + "];");
        }
        program("one that is not told", "a(x)=!" + ahead + "'y];");
        program("a NUMBER that is none", "a(x)=!" + ahead + "'-];");
        program("a NUMBER that is none", "a(x)=" + ahead + "-'];");
        String full = "a()=" + thingsOf(80) + ";";
        program("each function by itself", full + full.replace('a', 'b'));
        OnlineParts x = Check.with(full + full.replace('a', 'b'));
        Check.due("things of all functions", x.is(7), 160);
        program("a VAR of : is no thing, nor is one on the left", "a(m,n,o)=:y=1," + thingsOf(78) + ";");
        program("a VAR of : is no thing, nor is one on the left", "a(m,n,o)=:y=1,!" + thingsOf(76) + ";");
        OnlineParts y = Check.with("a(m,n,o)=:y=1," + thingsOf(78) + ";");
        Check.due("a VAR of : is no thing, nor is one on the left", y.function(0, 2), 80);
    }

    private static void thingsInOthers() {
        String deep = "lies in 20 others, at its first byte";
        String[] opens = {"$", "^", "#", "@", "~", "!", "&0", "(", "(1+", "[", "[1,", "?(", "?(1,", "?(1,1,", ":y=", ":y=1,", "a(", "a(1,"};
        String[] closes = {"", "", "", "", "", "", "", "+1)", ")", ",1]", "]", ",1,1)", ",1)", ")", ",1", "", ")", ")"};
        for (int k = 0; k < opens.length; k++) {
            String open = opens[k];
            String close = closes[k];
            program(deep, "a()=" + open.repeat(18) + "1" + close.repeat(18) + ";");
            program(deep, "a()=" + open.repeat(19) + "1" + close.repeat(19) + ";");
            // in the 20th, what is first in it lies in 20 others
            int first = open.replace("1,", "").replace("1+", "").length();
            boolean alone = first == open.length();
            String twentieth = alone ? open + "'1" : open.substring(0, first) + "'" + open.substring(first) + "1";
            program(deep, "a()=" + open.repeat(19) + twentieth + close.repeat(20) + ";");
        }
        program("a call without arguments lies there, too", "a()=" + "!".repeat(19) + "a();");
        program("a call without arguments lies there, too", "a()=" + "!".repeat(20) + "'a();");
        program("_", "a()=" + "!".repeat(19) + "_0;");
        program("_", "a()=" + "!".repeat(20) + "'_0;");
        program("VAR", "a(x)=" + "!".repeat(19) + "x;");
        program("VAR", "a(x)=" + "!".repeat(20) + "'x;");
        program("the end there", "a(x)=" + "!".repeat(20) + "'");
    }

    private static void functionCounts() {
        OnlineParts x = Check.with("a()=1;l(m,n,o,p,q)=!!&0&7_0;k(x)=[a(a()),b()];");
        int[][] due = {{1, 0, 1, 0, 0, 0}, {12, 5, 5, 0, 2, 3}, {11, 1, 4, 3, 0, 0}};
        for (int k = 0; k < 3; k++) {
            for (int what = 0; what < 6; what++) {
                Check.due("function(" + k + "," + what + ")", x.function(k, what), due[k][what]);
            }
            Check.due("function(k, -1)", x.function(k, -1), -1);
            Check.due("function(k, 6)", x.function(k, 6), -1);
        }
        for (int k : new int[] {-1, 3, Integer.MIN_VALUE, Integer.MAX_VALUE}) {
            Check.due("function(" + k + ", 0)", x.function(k, 0), -1);
        }
        Check.due("an empty one: 0", Check.program(x, ""), 0);
        Check.due("an empty one: well", x.fault(), -1);
        Check.due("no function", x.function(0, 0), -1);
        Check.due("no thing", x.is(7), 0);
    }

    /** n parts of a TASK or of VALUES (n is odd), as even as may be. */
    private static String parts(int n, String leaf) {
        if (n == 1) {
            return leaf;
        }
        int half = (n - 1) / 2;
        half += half % 2 == 0 ? 1 : 0;
        return "[" + parts(half, leaf) + "," + parts(n - 1 - half, leaf) + "]";
    }

    private static void tasks() {
        String stars = "8 at most; a 9th * at its byte";
        task(stars, "a([[*,*],[*,*]],*,*,*)", 7);
        task(stars, "a([[*,*],[*,*]],*,*,*,*)", 8);
        task(stars, "a([[*,*],[*,*]],*,*,*,[*,1])", 8);
        task(stars, "a([[*,*],[*,*]],*,*,*,[*,'*])", 0);
        task(stars, "a([[*,*],[*,*]],[*,*],[*,*],'*)", 0);
        task(stars, "a([[*,*],[*,*]],[*,*],[*,*],'*", 0);
        String things = "30 things at most; a 31st at its byte";
        task(things, "a(" + parts(29, "1") + ")", 0);
        task(things, "a(" + parts(29, "1") + ",1)", 0);
        task(things, "a(" + parts(29, "1") + ",1,'1)", 0);
        task(things, "a(" + parts(29, "1") + ",*,'*)", 0);
        task(things, "a(" + parts(29, "1") + ",1,'[1,1])", 0);
        task(things, "a(" + parts(29, "1") + ",['1,1])", 0);
        task(things, "a(" + parts(29, "1") + ",1,'-2.5)", 0);
        task(things, "a(" + parts(15, "1") + "," + parts(15, "1") + ")", 0);
        task(things, "a(1," + parts(29, "1") + ")", 0);
        task(things, "a(1,1," + parts(29, "1").replaceAll("1(]*)$", "'1$1") + ")", 0);
        task(things, "a(" + "[".repeat(30) + "'[", 0);
        task(things, "a(" + "[".repeat(30) + "'*", 0);
        task(things, "a(" + "[".repeat(29) + "1,'1", 0);
        task("P a NUMBER, [P,P] or *", "a('x)", 0);
        task("P a NUMBER, [P,P] or *", "a('!1)", 0);
        task("P a NUMBER, [P,P] or *", "a('a())", 0);
        task("P a NUMBER, [P,P] or *", "a(*'*)", 0);
        task("P a NUMBER, [P,P] or *", "a([*'])", 0);
        task("P a NUMBER, [P,P] or *", "a([*,*',*])", 0);
        task("P a NUMBER, [P,P] or *", "a([*,*'))", 0);
        task("1 to 5 digits", "a(12345)", 0);
        task("1 to 5 digits", "a(12345'6)", 0);
        task("1 to 3 digits behind", "a(-1.234)", 0);
        task("1 to 3 digits behind", "a(-1.234'5)", 0);
        task("f a letter a .. l", "'`()", 0);
        task("f a letter a .. l", "l()", 0);
        task("f a letter a .. l", "'m()", 0);
        task("it may be not told", "k(*,1)", 1);
        task("an empty tape", "'", 0);
    }

    private static void values() {
        String many = "as many as LEAVES";
        values(many, "a(*,*)", "1'");
        values(many, "a(*,*)", "1,2");
        values(many, "a(*,*)", "1,2',3");
        values("none: empty", "a()", "");
        values("none: empty", "a(1)", "'1");
        values("an empty tape for one", "a(*)", "'");
        values("8 of them", "a(*,*,*,*,[[*,*],[*,*]])", "1,2,3,4,5,6,7,8");
        values("8 of them", "a(*,*,*,*,[[*,*],[*,*]])", "1,2,3,4,5,6,7'");
        values("8 of them", "a(*,*,*,*,[[*,*],[*,*]])", "1,2,3,4,5,6,7,8',9");
        String things = "30 things in all at most";
        values(things, "a(*)", parts(29, "1"));
        values(things, "a(*,*)", parts(29, "1") + ",1");
        values(things, "a(*,*)", "1," + parts(29, "1"));
        values(things, "a(*,*)", parts(29, "1") + ",['1,1]");
        values(things, "a(*,*,*)", parts(29, "1") + ",1,'1");
        values(things, "a(*,*,*)", "1,1," + parts(29, "1").replaceAll("1(]*)$", "'1$1"));
        values(things, "a(*)", parts(31, "1").replaceAll("1(]*)$", "'1$1"));
        values("NUMBERS, [VALUE,VALUE]", "a(*)", "'*");
        values("NUMBERS, [VALUE,VALUE]", "a(*)", "[1,'*]");
        values("NUMBERS, [VALUE,VALUE]", "a(*)", "[1,2',3]");
        values("1 to 5 digits", "a(*)", "12345'6");
        values("1 to 3 digits behind", "a(*)", "1.234'5");
    }

    /** Promises 4 to 6: a FAULT; all stays, those told stay. */
    private static void faultsKeepAll() {
        OnlineParts x = Check.with("a(x)=(x+1);", "a(*)", "4");
        x.specialise();
        Check.due("program() with a FAULT", Check.program(x, "a(x)=(x+2)"), -1);
        Check.due("fault()", x.fault(), 10);
        keeps(x, "program()");
        Check.due("task() with a FAULT", Check.task(x, "a(*,7"), -1);
        Check.due("fault()", x.fault(), 5);
        keeps(x, "task()");
        Check.due("values() with a FAULT", Check.values(x, "5,6"), -1);
        Check.due("fault()", x.fault(), 1);
        keeps(x, "values()");
        Check.due("values()", Check.values(x, "5"), 1);
        Check.due("the RESIDUE stays with new VALUES", x.residue(0), 1);
        x.run(1, 0);
        Check.due("new VALUES", Check.value(x), "6");
        Check.due("program()", Check.program(x, "a(x)=(x+2);"), 1);
        Check.due("without one: no RESIDUE", x.residue(0), -1);
        Check.due("THE TASK stays", x.is(1), 1);
        Check.due("VALUES stay", x.is(2), 1);
        x.run(0, 0);
        Check.due("VALUES stay", Check.value(x), "7");
        x.specialise();
        Check.due("task()", Check.task(x, "a(*)"), 1);
        Check.due("without one: no RESIDUE", x.residue(0), -1);
        Check.due("without one: no VALUES", x.is(2), 0);
        Check.due("without one: no VALUES", x.run(0, 0), -1);
        Check.due("the PROGRAM stays", x.is(0), 1);
    }

    private static void keeps(OnlineParts x, String by) {
        Check.due(by + " the tape is empty then", x.is(6), 0);
        Check.due(by + " the PROGRAM stays", x.is(0), 1);
        Check.due(by + " its things stay", x.is(7), 3);
        Check.due(by + " the LEAVES stay", x.is(1), 1);
        Check.due(by + " the VALUES stay", x.is(2), 1);
        Check.due(by + " the RESIDUE stays", x.residue(0), 1);
        Check.due(by + " it runs", x.run(0, 0), 0);
        Check.due(by + " it runs", Check.value(x), "5");
        Check.due(by + " it runs", x.run(1, 0), 0);
        Check.due(by + " it runs", Check.value(x), "5");
        Check.due(by + " they agree", x.agree(), 1);
    }

    /** Promise 7. */
    private static void faultOfTheLatest() {
        OnlineParts x = new OnlineParts();
        Check.due("ahead of any", x.fault(), -1);
        Check.task(x, "b");
        Check.due("of task()", x.fault(), 1);
        Check.program(x, "");
        Check.due("that was well", x.fault(), -1);
        Check.program(x, "a(");
        Check.due("of program()", x.fault(), 2);
        Check.task(x, "a(*)");
        Check.due("that was well", x.fault(), -1);
        Check.values(x, "[1,");
        Check.due("of values()", x.fault(), 3);
        x.specialise();
        x.run(0, 0);
        x.end(5);
        x.set(0, 99);
        Check.due("no other call", x.fault(), 3);
        Check.values(x, "1");
        Check.due("that was well", x.fault(), -1);
        Check.values(x, "");
        Check.due("at 0", x.fault(), 0);
    }
}
