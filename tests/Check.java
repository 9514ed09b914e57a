/** What the tests share: telling texts to an object, reading what it wrote, counting what is not due. */
final class Check {
    private static int passed = 0;
    private static int failed = 0;

    private Check() {
    }

    static void due(String what, long got, long want) {
        if (got == want) {
            passed++;
        } else {
            failed++;
            if (failed <= 40) {
                System.out.println(what + " answered " + got + ", due is " + want);
            }
        }
    }

    static void due(String what, String got, String want) {
        if (!got.equals(want)) {
            System.out.println(what + " answered " + got + ", due is " + want);
        }
        due(what, got.equals(want) ? 1 : 0, 1);
    }

    static boolean allDue() {
        return failed == 0;
    }

    /** Prints the count and ends with exit code 1 if there was a wrong answer. */
    static void close(String name) {
        System.out.println(name + ": " + passed + " passed, " + failed + " failed");
        if (failed != 0) {
            System.exit(1);
        }
    }

    /** The tape becomes the text (at most 800 bytes). */
    static void tape(OnlineParts x, String text) {
        x.end(0);
        for (int from = 0; from < text.length(); from += 20) {
            int[] five = new int[5];
            for (int k = 0; k < 20; k++) {
                int c = from + k < text.length() ? text.charAt(from + k) : 0;
                five[k / 4] |= (c & 255) << (24 - k % 4 * 8);
            }
            x.feed(five[0], five[1], five[2], five[3], five[4]);
        }
        x.end(text.length());
    }

    static int program(OnlineParts x, String text) {
        tape(x, text);
        return x.program();
    }

    static int task(OnlineParts x, String text) {
        tape(x, text);
        return x.task();
    }

    static int values(OnlineParts x, String text) {
        tape(x, text);
        return x.values();
    }

    /** What was written latest, n bytes of it. */
    static String written(OnlineParts x, int n) {
        StringBuilder b = new StringBuilder();
        for (int k = 0; k < n; k++) {
            b.append((char) x.octet(k));
        }
        return b.toString();
    }

    static String value(OnlineParts x) {
        return written(x, x.value());
    }

    static String text(OnlineParts x, int k) {
        return written(x, x.write(k));
    }
}
