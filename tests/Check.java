/** What the tests share: telling texts to an object, reading what it wrote, counting what is not due. */
final class Check {
    private static int passed = 0;
    private static int failed = 0;

    private Check() {
    }

    static void due(String what, long got, long want) {
        if (got == want) {
            passed++;
        } else {
            report(what + " answered " + got + ", due is " + want);
        }
    }

    static void due(String what, String got, String want) {
        if (got.equals(want)) {
            passed++;
        } else {
            report(what + " answered " + got + ", due is " + want);
        }
    }

    private static void report(String wrong) {
        failed++;
        if (failed <= 40) {
            System.out.println(wrong);
        }
    }

    static boolean allDue() {
        return failed == 0;
    }

    /** Prints the count and ends with exit code 1 if there was a wrong answer. */
    static void close(String name) {
        System.out.println(name + ": " + passed + " passed, " + failed + " failed");
        if (failed != 0) {
            System.exit(1);
        }
    }

    /** A new object with this PROGRAM. */
    static OnlineParts with(String program) {
        OnlineParts x = new OnlineParts();
        due(program, program(x, program) >= 0 ? 1 : 0, 1);
        return x;
    }

    /** A new object with this PROGRAM and this TASK. */
    static OnlineParts with(String program, String task) {
        OnlineParts x = with(program);
        due(task, task(x, task) >= 0 ? 1 : 0, 1);
        return x;
    }

    /** A new object with this PROGRAM, this TASK and these VALUES. */
    static OnlineParts with(String program, String task, String values) {
        OnlineParts x = with(program, task);
        due(values, values(x, values) >= 0 ? 1 : 0, 1);
        return x;
    }

    /** Adds n of them, as even as may be, so that they don't lie deep. */
    static String sum(String e, int n) {
        return n == 1 ? e : "(" + sum(e, n / 2) + "+" + sum(e, n - n / 2) + ")";
    }

    /** The text of a PROGRAM, with a ' ahead of the byte where its FAULT is due (none: it is well). */
    static void programGoes(String what, String marked) {
        OnlineParts x = with("l(x)=x;");
        int at = marked.indexOf('\'');
        String told = what + " " + marked;
        due(told, program(x, marked.replace("'", "")) >= 0 ? 1 : 0, at < 0 ? 1 : 0);
        due(told + " fault()", x.fault(), at);
        due(told + " all stays", at < 0 ? 1 : x.is(0), 1);
    }

    /** Likewise the text of a TASK, which has so many LEAVES. */
    static void taskGoes(String what, String marked, int leaves) {
        OnlineParts x = new OnlineParts();
        int at = marked.indexOf('\'');
        String told = what + " " + marked;
        due(told, task(x, marked.replace("'", "")), at < 0 ? leaves : -1);
        due(told + " fault()", x.fault(), at);
        due(told + " is(1)", x.is(1), at < 0 ? leaves : 0);
    }

    /** Likewise VALUES for the LEAVES of a TASK. */
    static void valuesGo(String what, String task, String marked) {
        OnlineParts x = new OnlineParts();
        int leaves = task(x, task);
        int at = marked.indexOf('\'');
        String told = what + " " + task + " " + marked;
        due(told, values(x, marked.replace("'", "")), at < 0 ? leaves : -1);
        due(told + " fault()", x.fault(), at);
        due(told + " is(2)", x.is(2), at < 0 ? leaves : 0);
    }

    /** THE TEXT of a VARIANT, by so many objects that none of them is used for more than 512 calls. */
    static String longText(String program, String task, int unroll, int k) {
        StringBuilder b = new StringBuilder();
        int size = 1;
        while (b.length() < size) {
            OnlineParts x = with(program, task);
            x.set(0, unroll);
            x.specialise();
            size = x.write(k);
            for (int n = 0; n < 400 && b.length() < size; n++) {
                b.append((char) x.octet(b.length()));
            }
        }
        return b.toString();
    }

    /** SPECIALISES: as many VARIANTS as texts, and these texts. */
    static void texts(OnlineParts x, String what, String... want) {
        due(what, x.specialise(), want.length);
        for (int k = 0; k < want.length; k++) {
            due(what + " " + k, text(x, k), want[k]);
        }
    }

    /** The tape becomes the text (at most 800 bytes). */
    static void tape(OnlineParts x, String text) {
        x.end(0);
        for (int from = 0; from < text.length(); from += 20) {
            int[] five = new int[5];
            for (int k = 0; k < 20; k++) {
                int c = from + k < text.length() ? text.charAt(from + k) : 0;
                five[k / 4] |= (c & 255) << (24 - k % 4 * 8);
            }
            x.feed(five[0], five[1], five[2], five[3], five[4]);
        }
        x.end(text.length());
    }

    static int program(OnlineParts x, String text) {
        tape(x, text);
        return x.program();
    }

    static int task(OnlineParts x, String text) {
        tape(x, text);
        return x.task();
    }

    static int values(OnlineParts x, String text) {
        tape(x, text);
        return x.values();
    }

    /** What was written latest, n bytes of it. */
    static String written(OnlineParts x, int n) {
        StringBuilder b = new StringBuilder();
        for (int k = 0; k < n; k++) {
            b.append((char) x.octet(k));
        }
        return b.toString();
    }

    static String value(OnlineParts x) {
        return written(x, x.value());
    }

    static String text(OnlineParts x, int k) {
        return written(x, x.write(k));
    }
}
