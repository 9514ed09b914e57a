/** Promises 4 to 7: where a text goes wrong. A ' stands ahead of the byte of the FAULT (none: it is well). */
final class FaultTest {
    public static void main(String[] args) {
        heads();
        expressions();
        vars();
        things();
        tasks();
        values();
        Check.close("FaultTest");
    }

    private static void program(String marked) {
        Check.programGoes("", marked);
    }

    private static void task(String marked, int leaves) {
        Check.taskGoes("", marked, leaves);
    }

    private static void values(String task, String marked) {
        Check.valuesGo("", task, marked);
    }

    private static void heads() {
        program("a()=1;");
        program("'m()=1;");
        program("'A()=1;");
        program("' a()=1;");
        program("'(x)=1;");
        program("a'=1;");
        program("a'");
        program("a('");
        program("a(1)=1;".replace("1)", "'1)"));
        program("a('a)=1;");
        program("a('l)=1;");
        program("a(m)=1;");
        program("a(z)=1;");
        program("a(x'");
        program("a(x' )=1;");
        program("a(x,')=1;");
        program("a(x,y,z,m,n)=1;");
        program("a(x,y,z,m,n',o)=1;");
        program("a(x,y,'x)=1;");
        program("a(x)'");
        program("a(x)':1;");
        program("a(x)='");
        program("a(x)=';");
        program("a(x)=1'");
        program("a(x)=1',");
        program("a(x)=1;'1");
        program("a(x)=1;a(x,y)=1;a()=1;");
        program("a(x)=1;'a(y)=1;");
        program("a(x)=1;'a(y)=");
        program("a(x)=1;a(y)'");
        program("a(x)=1;a(y)';");
        program("a(x)=1;a(y,'y)=;");
        program("a(x)=1;b(x)=1;'a(x)=z;");
        program("a()=1;'" + (char) 0);
        program("a()='" + (char) 200 + ";");
    }

    private static void expressions() {
        program("a()=12345;");
        program("a()=12345'6;");
        program("a()=-'-1;");
        program("a()=-'x;");
        program("a()=-'");
        program("a()='+1;");
        program("a()=1.'");
        program("a()=1.';");
        program("a()='.5;");
        program("a()=1.234;");
        program("a()=1.234'5;");
        program("a()=1.2'.5;");
        program("a()=12345.678;");
        program("a()=123456.5;".replace("6.5", "'6.5"));
        program("a()=-0.0;");
        program("a()=(1+2);");
        program("a()=(1--2);");
        program("a()=(1-'(;".replace("'(", "('"));
        program("a()=(1'>2);");
        program("a()=(1'&2);");
        program("a()=(1')");
        program("a()=(1+2'");
        program("a()=(1+2'];");
        program("a()=(1+2'+3);");
        program("a()=(1+');");
        program("a()=(');");
        program("a()=((1%2)/(3*4));");
        program("a()=((1<2)=(3-4));");
        program("a()=[1,2];");
        program("a()=[1'];");
        program("a()=[1,2',3];");
        program("a()=[1,2');");
        program("a()=?(1,2,3);");
        program("a()=?'1;");
        program("a()=?(1,2');");
        program("a()=?(1,2,3',4);");
        program("a()=$^#@~!1;");
        program("a()=$';");
        program("a()=!'");
        program("a()=&01;");
        program("a()=&71;");
        program("a()=&'81;");
        program("a()=&'x;");
        program("a()=&'-1;");
        program("a()=&0';");
        program("a()=_0;");
        program("a()=_'8;");
        program("a()=_1'1;");
        program("a()=_'");
        program("a()=l();");
        program("a()=l(1,2,3,4,5);");
        program("a()=l(1,2,3,4,5',6);");
        program("a()=l';");
        program("a()=l(';");
        program("a()=l(1,');");
        program("a()=l(1';");
        program("a()=l(1'");
        program("a()='*;");
        program("a()='=1;");
    }

    private static void vars() {
        program("a(x)='y;");
        program("a()='x;");
        program("a(x)=(x+'y);");
        program("a()=:x=1,x;");
        program("a()=:x='x,x;");
        program("a(x)=:x=x,x;");
        program("a()=(:x=1,x+'x);");
        program("a()=[:x=1,:y=x,y,'y];");
        program("a()=[:x=1,:y=x,y,'x];");
        program("a()=:x=1,[:y=x,y,x];");
        program("a()=:'a=1,1;");
        program("a()=:'1=1,1;");
        program("a()=:x':1,1;");
        program("a()=:x=1';");
        program("a()=:x=1,';");
        program("a()=:x'");
        program("a(x)=x;b()='x;");
        program("a(x)=l('y,;");
    }

    private static String times(String e, int n) {
        return e.repeat(n);
    }

    private static void things() {
        // 19 signs and what lies in them; the 21st thing lies in 20 others
        program("a()=" + times("!", 19) + "1;");
        program("a()=" + times("!", 20) + "'1;");
        program("a()=" + times("!", 20) + "'!1;");
        program("a()=" + times("!", 20) + "'");
        program("a()=" + times("[1,", 19) + "2" + times("]", 19) + ";");
        program("a()=" + times("[1,", 19) + "['1,2" + times("]", 20) + ";");
        program("a()=" + times("[", 20) + "'2;");
        program("a()=" + times("l(", 20) + times(")", 20) + ";");
        program("a()=" + times("l(", 20) + ")'");
        program("a()=" + times("l(", 20) + "'l()");
        program("a()=" + times("l(", 20) + "'-1)");
        program("a()=" + times(":x=1,", 19) + "x;");
        program("a()=" + times(":x=1,", 19) + ":x='1,x;");
        program("a()=" + times("?(1,2,", 19) + "3" + times(")", 19) + ";");
        program("a()=" + times("?(1,2,", 19) + "?('1,2,3;");
        program("a()=" + times("$", 10) + "(" + times("#", 8) + "1+2);");
        program("a()=" + times("$", 10) + "(" + times("#", 9) + "'1+2);");
        program("a()=" + times("$", 10) + "(1+" + times("#", 9) + "'y);");
        // 80 things: four calls of 19 in three PAIRS (3), one VAR of : (1)
        String call = "l(1,2,3,4,l(5,6,7,8,l(9,1,2,3,l(4,5,6))))";
        String four = "[[" + call + "," + call + "],[" + call + ",";
        program("a()=:x=" + four + "l(1,2,3,4,l(5,6,7,8,l(9,1,2,3,l(4,5))))]],x;");
        program("a()=:x=" + four + "l(1,2,3,4,l(5,6,7,8,l(9,1,2,3,l(4,5,6))))]],'x;");
        program("a()=[:x=" + four + "l(1,2,3,4,l(5,6,7,8,l(9,1,2,3,l(4))))]],x,'-12.5];");
        program("a()=[:x=" + four + "l(1,2,3,4,l(5,6,7,8,l(9,1,2,3,l(4))))]],x,'-x];");
        program("a()=[:x=" + four + "l(1,2,3,4,l(5,6,7,8,l(9,1,2,3,l(4))))]],x,'l(];");
        program("a()=[:x=" + four + "l(1,2,3,4,l(5,6,7,8,l(9,1,2,3,l())))]],x,-12.5];");
        program("a()=[:x=" + four + "l(1,2,3,4,l(5,6,7,8,l(9,1,2,3,l())))]],x,l('];");
        program("a()=[:x=" + four + "l(1,2,3,4,l(5,6,7,8,l(9,1,2,3,l())))]],x,l('1)];");
        // each function by itself
        program("a()=:x=" + four + "l(1,2,3,4,l(5,6,7,8,l(9,1,2,3,l(4,5))))]],x;b()=" + times("!", 19) + "1;");
    }

    private static void tasks() {
        task("a()", 0);
        task("l(*)", 1);
        task("'m()", 0);
        task("'", 0);
        task("a'", 0);
        task("a('", 0);
        task("a()';", 0);
        task("a(1,-2.5,[*,[3,*]],*,5)", 3);
        task("a(1,2,3,4,5',6)", 0);
        task("a(,1)".replace(",1", "',1"), 0);
        task("a(1,')", 0);
        task("a('x)", 0);
        task("a('(1+2))", 0);
        task("a('b())", 0);
        task("a([1'])", 0);
        task("a([1,2'", 0);
        task("a([1,2')", 0);
        task("a(123456)".replace("6)", "'6)"), 0);
        task("a(*,[*,*],[*,*],[*,*],*)", 8);
        task("a(*,[*,*],[*,*],[*,*],[*,'*])", 0);
        task("a(*,[*,*],[*,*],[*,*],[*,1])", 8);
        // 30 things: two of 15
        String fifteen = "[[[1,2],[3,4]],[[5,6],[7,8]]]";
        task("a(" + fifteen + "," + fifteen + ")", 0);
        task("a(" + fifteen + "," + fifteen + ",'1)", 0);
        task("a(" + fifteen + "," + fifteen + ",'*)", 0);
        task("a(" + fifteen + "," + fifteen + ",'[1,2])", 0);
        task("a(" + times("[", 30) + "'[", 0);
        task("a(" + times("[", 30) + "'1", 0);
        task("a(" + times("[1,", 14) + "*" + times("]", 14) + ",1)", 1);
    }

    private static void values() {
        values("a()", "");
        values("a()", "'1");
        values("a()", "',");
        values("a(*)", "1");
        values("a(*)", "'");
        values("a(*)", "1',2");
        values("a(*)", "1';");
        values("a(*)", "'*");
        values("a(*)", "[1,'*]");
        values("a(*)", "[1,2'");
        values("a(*)", "-12345.678");
        values("a(*)", "-'");
        values("a(*)", "'x");
        values("a(*,*)", "1'");
        values("a(*,*)", "1,'");
        values("a(*,*)", "1,[2,[3,4.5]]");
        values("a(*,*)", "1';2");
        values("a(*,*)", "1,2',3");
        values("a(*,*)", "',1,2");
        String fifteen = "[[[1,2],[3,4]],[[5,6],[7,8]]]";
        values("a(*,*)", fifteen + "," + fifteen);
        values("a(*,*,*)", fifteen + "," + fifteen + ",'1");
        values("a(*,*)", "1," + times("[", 29) + "'[");
        values("a(*,*)", fifteen + ",[" + fifteen.substring(0, fifteen.length() - 4) + "'8]]],1]");
    }
}
