/** The example of README.md, as it stands there. */
final class ReadmeTest {
    public static void main(String[] args) {
        OnlineParts x = new OnlineParts();
        tell(x, "a(x,y)=?(x,(y+a((x-1),y)),0);");
        Check.due("program()", x.program(), 1);
        tell(x, "a(3,*)");
        Check.due("task()", x.task(), 1);
        Check.due("specialise()", x.specialise(), 1);
        int n = x.write(0);
        Check.due("write(0)", n, 42);
        Check.due("THE TEXT", Check.written(x, n), "a(3,*)=r1=(r0+0);r2=(r0+r1);r3=(r0+r2);r3;");
        tell(x, "5");
        Check.due("values()", x.values(), 1);
        Check.due("run(0, 1)", x.run(0, 1), 4);
        Check.due("run(1, 1)", x.run(1, 1), 1);
        n = x.value();
        Check.due("value()", n, 2);
        Check.due("the VALUE", Check.written(x, n), "15");
        Check.due("agree()", x.agree(), 1);
        Check.due("saved()", x.saved(), 3);
        Check.close("ReadmeTest");
    }

    static void tell(OnlineParts x, String text) {
        x.end(0);
        for (int from = 0; from < text.length(); from += 20) {
            int[] five = new int[5];
            for (int k = 0; k < 20 && from + k < text.length(); k++) {
                five[k / 4] |= text.charAt(from + k) << (24 - k % 4 * 8);
            }
            x.feed(five[0], five[1], five[2], five[3], five[4]);
        }
        x.end(text.length());
    }
}
