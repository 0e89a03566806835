/** Promises 25 and 29: WEIGHT by KINDS, THE TRACE. */
public final class KindsTest {
    private static final Check check = new Check();
    private static final long[] TRACES = {1, 11, 101, 1101, 10001, 110001, 1000001, 10010001};

    public static void main(String[] args) {
        weights();
        traces();
        asOfToday();
        bad();
        check.end();
    }

    private static void row(String of, LetterDebts x, int fortnight, int[] want) {
        for (int kind = 0; kind < 8; kind++) {
            check.due(of + " kind " + kind, x.weight(kind, 0, fortnight), want[kind]);
        }
    }

    private static void weights() {
        LetterDebts x = Check.with("from 0 base 9 free 2 take 1/1;");
        row("new", x, 0, new int[] {1, 1, 1, 0, 1, 3, 1, 0});
        x.firm(0, 1, 3, 20);
        x.pay(0, 1, 0, 4);
        x.slip(0, 2, 9);
        x.pay(0, 3, 0, 20);
        x.pay(0, 9, 0, 20);
        // THE AVERAGE is 7 7 6: DUE 4 4 5.
        row("told 4", x, 1, new int[] {1, 5, 41, 20, 4, 12, 1, 0});
        row("with a slip", x, 2, new int[] {1, 1, 41, 20, 6, 18, 51, 1});
        row("paid less than due", x, 3, new int[] {1, 21, 41, 20, 1, 3, 1, 0});
        row("no span", x, 9, new int[] {1, 21, 1, 0, 1, 3, 1, 0});
    }

    private static void traces() {
        LetterDebts x = new LetterDebts();
        long all = 0;
        for (int kind = 0; kind < 8; kind++) {
            x.weight(kind, 0, 0);
            all += TRACES[kind];
            check.due("trace of " + kind, x.trace(), all);
        }
        x.keep(0);
        x.weight(7, 5, 9);
        x.back(0);
        check.due("no image has it", x.trace(), all + TRACES[7]);
        x.trace();
        x.weight(8, 0, 0);
        check.due("nothing of what is refused", x.trace(), all + TRACES[7]);
    }

    private static void asOfToday() {
        LetterDebts x = Check.with("from 0 base 9 free 0 take 1/1; from 4 base 99 free 0 take 4/1;");
        x.keep(0);
        Check.days(x, 4);
        x.firm(0, 0, 0, 5);
        x.slip(0, 0, 5);
        row("day 4", x, 0, new int[] {1, 1, 11, 5, 21, 63, 51, 16});
        x.back(0);
        row("day 0", x, 0, new int[] {1, 1, 1, 0, 1, 3, 1, 0});
    }

    private static void bad() {
        LetterDebts x = new LetterDebts();
        int[][] args = {{-1, 0, 0}, {8, 0, 0}, {0, -1, 0}, {0, 6, 0}, {0, 0, -1}, {0, 0, 10}};
        for (int[] a : args) {
            check.due("weight", x.weight(a[0], a[1], a[2]), Check.BAD);
        }
        check.due("no trace", x.trace(), 0);
    }
}
