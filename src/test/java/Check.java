/** Counts and prints answers that are not as due; a test ends with exit code 1 if there was one. */
final class Check {
    private final String test;
    private int calls = 0;
    private int wrong = 0;

    Check(String test) {
        this.test = test;
    }

    void due(String what, long got, long want) {
        calls++;
        if (got != want) {
            wrong++;
            System.out.println(test + ": " + what + " answered " + got + ", due is " + want);
        }
    }

    void holds(String what, boolean is) {
        due(what, is ? 1 : 0, 1);
    }

    int wrong() {
        return wrong;
    }

    void end() {
        System.out.println(test + ": " + (calls - wrong) + " of " + calls + " answers as due");
        if (wrong != 0 || calls == 0) {
            System.exit(1);
        }
    }

    /** Feeds a whole text to the tape, eight bytes at a time. */
    static void feedText(SilenceCanal canal, String text) {
        for (int i = 0; i < text.length(); i += 8) {
            int n = Math.min(8, text.length() - i);
            canal.feed(packed(text, i, n), n);
        }
    }

    static long packed(String text, int from, int n) {
        long eight = 0;
        for (int j = 0; j < n; j++) {
            eight |= (long) (text.charAt(from + j) & 255) << (8 * j);
        }
        return eight;
    }
}
