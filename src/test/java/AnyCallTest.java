import java.util.Random;

/** Any numbers, in any order, far beyond 512 calls: no call throws, and each answers something that the document has. */
public final class AnyCallTest {
    private static final Check check = new Check();
    /** A text has 300 bytes at most, so no fault is behind them. */
    private static final int LOWEST = -10 - 300;

    public static void main(String[] args) {
        int[] oneIn = {1, 4, 12, 40};
        for (int run = 0; run < 80; run++) {
            anyCalls(new Random(run), oneIn[run % 4], run % 16 < 4 ? 6000 : 700, run % 8 < 4);
        }
        everyCallOfNew();
        everyCallOfUsed();
        check.end();
    }

    private static void anyCalls(Random random, int oneIn, int calls, boolean used) {
        LetterDebts x = new LetterDebts();
        if (used) {
            Scenes.busy(x);
        }
        for (int i = 0; i < calls; i++) {
            AnyCall call = AnyCall.some(random, oneIn);
            answered(call, call.on(x));
            if (i % 50 == 0) {
                coins(x);
            }
        }
    }

    private static void answered(AnyCall call, long answer) {
        boolean refused = answer == Check.BAD || answer == Check.STATE || answer == Check.FULL;
        boolean none = answer == Check.NONE && (call.which() == 11 || call.which() == 12);
        boolean fault = answer <= -10 && answer >= LOWEST && (call.which() == 1 || call.which() == 2);
        check.holds(call + " answered " + answer, answer >= 0 || refused || none || fault);
    }

    /** Whatever was called: each coin is somewhere, and sums are the sums of their parts. */
    private static void coins(LetterDebts x) {
        int held = 0;
        int had = 0;
        int lost = 0;
        for (int d = 0; d < x.count(3); d++) {
            check.due("coins of " + d, x.about(d, 2) + x.about(d, 3) + x.about(d, 4), x.about(d, 1));
            held += x.about(d, 3);
            had += x.about(d, 6);
            lost += x.about(d, 4) > 0 ? x.about(d, 6) : 0;
        }
        check.due("held", x.count(8), held);
        check.due("had", x.count(9), had);
        check.due("lost", x.count(10), lost);
    }

    private static void everyCallOfNew() {
        for (int v : new int[] {Integer.MIN_VALUE, -1, 0, 1, Integer.MAX_VALUE}) {
            for (int which = 0; which < AnyCall.WHICH; which++) {
                AnyCall call = new AnyCall(which, v, v, v, v, v);
                answered(call, call.on(new LetterDebts()));
            }
        }
    }

    /** All calls with each of the numbers in each place, the others being as told. */
    private static void everyCallOfUsed() {
        int[] odd = {Integer.MIN_VALUE, -2, -1, 0, 1, 2, 5, 6, 9, 10, 20, 21, 99, 100, 200, 201, 999, 1000, Integer.MAX_VALUE};
        for (int which = 0; which < AnyCall.WHICH; which++) {
            LetterDebts full = new LetterDebts();
            LetterDebts last = new LetterDebts();
            Scenes.full(full);
            Scenes.lastDay(last);
            for (int v : odd) {
                AnyCall[] calls = {new AnyCall(which, v, v, 1, 1, 1), new AnyCall(which, v, 1, v, 1, 1),
                    new AnyCall(which, v, 1, 1, v, 1), new AnyCall(which, v, 1, 1, 1, v)};
                for (AnyCall call : calls) {
                    answered(call, call.on(full));
                    answered(call, call.on(last));
                }
            }
        }
    }
}
