import java.util.Random;

/** Promise 23: op() against the machine's own floats, bit by bit. */
final class FloatTest {
    private static OnlineParts x = new OnlineParts();
    private static int calls;

    private static final int[] EDGES = {
        0x00000000, 0x80000000, 0x00000001, 0x80000001, 0x00000002, 0x007fffff, 0x807fffff, 0x00800000, 0x80800000,
        0x00800001, 0x01000000, 0x33800000, 0x34000000, 0x3effffff, 0x3f000000, 0x3f7fffff, 0x3f800000, 0xbf800000,
        0x3f800001, 0x40000000, 0x40400000, 0x4b000000, 0x4b7fffff, 0x4b800000, 0x4b800001, 0x4effffff, 0x4f000000,
        0xcf000000, 0xcf000001, 0x4f800000, 0x7e800000, 0x7f000000, 0x7f7fffff, 0xff7fffff, 0x7f800000, 0xff800000,
        0x7fc00000, 0xffc00000, 0x7f800001, 0xff812345, 0x7fffffff, 0xffffffff
    };

    public static void main(String[] args) {
        for (int a : EDGES) {
            for (int b : EDGES) {
                weigh(a, b);
            }
        }
        Random r = new Random(23);
        for (int k = 0; k < 300000; k++) {
            int a = r.nextInt();
            int near = (r.nextInt(60) - 30) << 23;
            int b = r.nextInt(3) == 0 ? r.nextInt() : (a & 0x7f800000) + near ^ (r.nextInt() & 0x807fffff);
            weigh(a, b);
            weigh(a & 0x80ffffff, b & 0x81ffffff);
            weigh(Float.floatToIntBits(r.nextInt(200) - 100), Float.floatToIntBits((r.nextInt(2000) - 1000) / 8f));
            weigh(a, a ^ (r.nextInt(4) << 30));
        }
        for (int sign = -300; sign < 400; sign++) {
            if ("+-*/%<=".indexOf(sign) < 0) {
                Check.due("op by no sign " + sign, op(0x3f800000, sign, 0x40000000), 0);
            }
        }
        Check.close("FloatTest");
    }

    private static int op(int a, int sign, int b) {
        if (calls++ >= 500) {
            x = new OnlineParts();
            calls = 1;
        }
        return x.op(a, sign, b);
    }

    private static void weigh(int a, int b) {
        float p = Float.intBitsToFloat(a);
        float q = Float.intBitsToFloat(b);
        due(a, '+', b, Float.floatToIntBits(p + q));
        due(a, '-', b, Float.floatToIntBits(p - q));
        due(a, '*', b, Float.floatToIntBits(p * q));
        due(a, '/', b, Float.floatToIntBits(p / q));
        due(a, '%', b, (int) q == 0 ? 0 : (int) p % (int) q);
        due(a, '<', b, p < q ? 1 : 0);
        due(a, '=', b, p == q ? 1 : 0);
    }

    private static void due(int a, char sign, int b, int want) {
        int got = op(a, sign, b);
        if (got != want) {
            Check.due(Integer.toHexString(a) + " " + sign + " " + Integer.toHexString(b), got, want);
        } else {
            Check.due("", 0, 0);
        }
    }
}
