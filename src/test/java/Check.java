/** Counts and prints answers that are not as due; a test ends with exit code 1 if there was one. */
final class Check {
    private final String test;
    private final Doc doc;
    private String under = "";
    private int calls = 0;
    private int wrong = 0;

    Check(String test) {
        this(test, null);
    }

    Check(String test, Doc doc) {
        this.test = test;
        this.doc = doc;
    }

    /** What is checked from now on stands for these words of the document. */
    void sentence(String section, String words) {
        under = "";
        holds(section + " says '" + words + "'", doc != null && doc.quotes(section, words));
        under = section + " '" + words + "': ";
    }

    void due(String what, long got, long want) {
        calls++;
        if (got != want) {
            wrong++;
            System.out.println(test + ": " + under + what + " answered " + got + ", due is " + want);
        }
    }

    void holds(String what, boolean is) {
        due(what, is ? 1 : 0, 1);
    }

    int wrong() {
        return wrong;
    }

    void end() {
        System.out.println(test + ": " + (calls - wrong) + " of " + calls + " answers as due");
        if (wrong != 0 || calls == 0) {
            System.exit(1);
        }
    }

    /** A new object whose canal is what a text tells. */
    static SilenceCanal told(String text) {
        SilenceCanal x = new SilenceCanal();
        feedText(x, text);
        x.canal();
        return x;
    }

    /** What a new object answers to a text. */
    static int answerTo(String text) {
        SilenceCanal x = new SilenceCanal();
        feedText(x, text);
        return x.canal();
    }

    /** Feeds a whole text to the tape, eight bytes at a time. */
    static void feedText(SilenceCanal canal, String text) {
        for (int i = 0; i < text.length(); i += 8) {
            int n = Math.min(8, text.length() - i);
            canal.feed(packed(text, i, n), n);
        }
    }

    static long packed(String text, int from, int n) {
        long eight = 0;
        for (int j = 0; j < n; j++) {
            eight |= (long) (text.charAt(from + j) & 255) << (8 * j);
        }
        return eight;
    }
}
