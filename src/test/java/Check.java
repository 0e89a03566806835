/** Counts answers that are not as due, and ends a test with exit code 1 if there was one. */
final class Check {
    static final int BAD = LetterDebts.BAD, STATE = LetterDebts.STATE, FULL = LetterDebts.FULL, NONE = LetterDebts.NONE;
    private int asked = 0;
    private int wrong = 0;

    void due(String call, long got, long want) {
        asked++;
        if (got != want) {
            wrong++;
            System.out.println(call + " answered " + got + ", due is " + want);
        }
    }

    void holds(String what, boolean so) {
        due(what, so ? 1 : 0, 1);
    }

    int wrong() {
        return wrong;
    }

    void end() {
        if (asked == 0) {
            System.out.println("nothing was asked");
        }
        if (wrong != 0 || asked == 0) {
            System.exit(1);
        }
    }

    /** By eights, as an object is good for 512 calls. */
    static void typed(LetterDebts x, String text) {
        for (int i = 0; i < text.length(); i += 8) {
            int n = Math.min(8, text.length() - i);
            long v = 0;
            for (int k = 0; k < n; k++) {
                v = v << 8 | text.charAt(i + k);
            }
            x.type(v, n);
        }
    }

    static int ruled(LetterDebts x, String text) {
        x.clear();
        typed(x, text);
        return x.rules();
    }

    /** A new object with these rules. */
    static LetterDebts with(String text) {
        LetterDebts x = new LetterDebts();
        if (ruled(x, text) < 0) {
            throw new IllegalStateException(text);
        }
        return x;
    }

    static void days(LetterDebts x, int n) {
        for (int i = 0; i < n; i++) {
            x.day();
        }
    }
}
