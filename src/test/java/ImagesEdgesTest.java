/** WEIGHT, THE TRACE, IMAGES and count, at each limit that the document tells (promises 25 to 29). */
public final class ImagesEdgesTest {
    private static final Check check = new Check();

    public static void main(String[] args) {
        weightsAtLimits();
        halvesAreRoundedDown();
        lessFive();
        debtWeightIsNothingAtLeast();
        weightsByDays();
        traceBeyondInt();
        traceOfRefusedCalls();
        keptTwice();
        imagesApart();
        imagesOfOtherThings();
        imageOfNothing();
        imagesOfFullLines();
        countsAtLimits();
        fiveHundredAndTwelveCalls();
        check.end();
    }

    private static void row(String of, LetterDebts x, int person, int fortnight, int[] want) {
        for (int kind = 0; kind < 8; kind++) {
            check.due(of + ", kind " + kind, x.weight(kind, person, fortnight), want[kind]);
        }
    }

    private static void weightsAtLimits() {
        LetterDebts x = Check.with("from 0 base 99 free 0 take 20/1;");
        row("nothing told", x, 5, 9, new int[] {1, 1, 1, 0, 1, 3, 1, 0});
        x.firm(5, 0, 9, 200);
        row("all of it", x, 5, 9, new int[] {1, 1, 401, 200, 100, 300, 1, 95});
        x.slip(5, 9, 20);
        row("shown", x, 5, 9, new int[] {1, 1, 401, 200, 100, 300, 51, 95});
        row("another fortnight", x, 5, 0, new int[] {1, 1, 401, 200, 100, 300, 1, 95});
        x.pay(5, 9, 0, 20);
        row("told", x, 5, 9, new int[] {1, 21, 401, 200, 1, 3, 51, 0});
        row("another person", x, 0, 9, new int[] {1, 1, 1, 0, 1, 3, 1, 0});
    }

    private static void halvesAreRoundedDown() {
        for (int sum = 0; sum <= 20; sum++) {
            LetterDebts x = new LetterDebts();
            x.firm(0, 0, 0, sum);
            check.due("taxed by " + sum, x.weight(2, 0, 0), 1 + 2 * sum);
            check.due("averaged by " + sum, x.weight(3, 0, 0), sum);
        }
    }

    /** What is above by 3, 4, 5 and 6 is up 4, 5, 6 and 7. */
    private static void lessFive() {
        for (int pay = 0; pay <= 20; pay++) {
            LetterDebts x = Check.with("from 0 base 50 free 0 take 1/1;");
            x.firm(0, 3, 3, pay);
            check.due("debt of " + pay, x.weight(4, 0, 3), 1 + pay);
            check.due("held of " + pay, x.weight(5, 0, 3), 3 + 3 * pay);
            check.due("set of " + pay, x.weight(7, 0, 3), pay <= 4 ? 0 : pay - 4);
        }
    }

    private static void debtWeightIsNothingAtLeast() {
        int[][] told = {{9, 2}, {10, 1}, {11, 1}, {20, 1}};
        for (int[] t : told) {
            LetterDebts x = Check.with("from 0 base 50 free 0 take 1/1;");
            x.firm(0, 0, 1, 20);
            x.pay(0, 0, 0, t[0]);
            check.due("debt, told " + t[0], x.weight(4, 0, 0), t[1]);
        }
    }

    /** As of TODAY: the day ahead of a firm and a slip, their day, and the rule of TODAY. */
    private static void weightsByDays() {
        LetterDebts x = Check.with("from 0 base 50 free 0 take 1/1; from 3 base 50 free 0 take 2/1;");
        x.keep(0);
        x.day();
        x.firm(0, 0, 0, 8);
        x.keep(1);
        x.day();
        x.slip(0, 0, 8);
        row("day 2", x, 0, 0, new int[] {1, 1, 17, 8, 9, 27, 51, 4});
        x.day();
        row("day 3", x, 0, 0, new int[] {1, 1, 17, 8, 17, 51, 51, 12});
        x.back(1);
        row("day 1", x, 0, 0, new int[] {1, 1, 17, 8, 9, 27, 1, 4});
        x.back(0);
        row("day 0", x, 0, 0, new int[] {1, 1, 1, 0, 1, 3, 1, 0});
    }

    /** 511 of the dearest are 5115110511. */
    private static void traceBeyondInt() {
        LetterDebts x = new LetterDebts();
        long all = 0;
        for (int i = 0; i < 508; i++) {
            x.weight(7, i % 6, i % 10);
            all += 10010001;
            if (i == 213 || i == 214 || i == 428 || i == 429) {
                check.due("trace of " + (i + 1), x.trace(), all);
            }
        }
        check.holds("beyond an int", all > Integer.MAX_VALUE && all > 4294967296L);
    }

    private static void traceOfRefusedCalls() {
        LetterDebts x = new LetterDebts();
        x.weight(1, 0, 0);
        x.weight(8, 0, 0);
        x.weight(-1, 0, 0);
        x.weight(1, 6, 0);
        x.weight(1, 0, 10);
        x.debt(0, 0);
        x.owed(0, 0, 0);
        check.due("of the one that was answered", x.trace(), 11);
        check.due("asking changes nothing", x.trace(), 11);
    }

    private static LetterDebts owing() {
        LetterDebts x = Check.with("from 0 base 99 free 0 take 1/1;");
        x.firm(0, 0, 9, 100);
        return x;
    }

    private static void keptTwice() {
        LetterDebts x = owing();
        check.due("keep", x.keep(0), 0);
        x.debt(0, 0);
        x.day();
        check.due("keep over it", x.keep(0), 1);
        x.debt(0, 0);
        x.day();
        check.due("the later one", x.back(0), 1);
        check.due("one debt", x.count(3), 1);
        check.due("as often as one likes", x.back(0), 1);
        check.due("the other was never kept", x.back(1), Check.STATE);
        check.due("one debt still", x.count(3), 1);
    }

    private static void imagesApart() {
        LetterDebts x = owing();
        x.keep(0);
        x.debt(0, 0);
        x.letter(0);
        Check.days(x, 9);
        x.hold(0, 30, 1, 1);
        x.keep(1);
        x.set(0);
        check.due("lost", x.count(10), 3);
        check.due("the first", x.back(0), 0);
        check.due("no debts", x.count(3), 0);
        check.due("no letters", x.count(4), 0);
        check.due("none lost", x.count(10), 0);
        check.due("collectors had none", x.count(9), 0);
        check.due("the second", x.back(1), 9);
        check.due("held", x.count(8), 30);
        check.due("collectors had", x.count(9), 3);
        check.due("none lost yet", x.count(10), 0);
        check.due("given back", x.set(0), 30);
        check.due("lost then", x.count(10), 3);
        check.due("kept with it", x.keep(0), 9);
        check.due("the second again", x.back(1), 9);
        check.due("not lost", x.count(10), 0);
        check.due("not set", x.about(0, 4), 0);
        check.due("the first, kept anew", x.back(0), 9);
        check.due("lost", x.count(10), 3);
        check.due("set", x.about(0, 4), 100);
        check.due("set already", x.set(0), Check.STATE);
    }

    /** What was made since a keep is another debt, letter and call by the same number. */
    private static void imagesOfOtherThings() {
        LetterDebts x = owing();
        x.firm(5, 3, 3, 14);
        x.keep(0);
        Check.days(x, 3);
        x.place(5, 1, 8);
        x.debt(5, 2);
        x.letter(0);
        Check.days(x, 1);
        x.place(5, 1, 0);
        x.debt(0, 0);
        x.letter(0);
        x.letter(1);
        Check.days(x, 9);
        x.hold(5, 5, 1, 1);
        x.set(1);
        x.call(0, 60);
        x.call(0, 20);
        x.keep(1);
        x.back(0);
        x.debt(0, 0);
        x.letter(0);
        x.debt(0, 1);
        x.letter(1);
        x.letter(0);
        x.debt(5, 0);
        Check.days(x, 9);
        x.hold(0, 130, 1, 1);
        x.set(0);
        x.call(0, 10);
        x.call(0, 11);
        x.call(0, 12);
        check.due("back", x.back(1), 13);
        int[][] abouts = {{5, 14, 9, 5, 0, 3, 1}, {0, 100, 0, 0, 100, 4, 0}};
        int[][] posts = {{0, 3, 8, 2}, {0, 4, 0, 1}, {1, 4, 0, 1}};
        for (int d = 0; d < 2; d++) {
            for (int what = 0; what < 7; what++) {
                check.due("about " + d + ", " + what, x.about(d, what), abouts[d][what]);
            }
        }
        for (int i = 0; i < 3; i++) {
            for (int what = 0; what < 4; what++) {
                check.due("post " + i + ", " + what, x.post(i, what), posts[i][what]);
            }
        }
        check.due("no third debt", x.about(2, 0), Check.BAD);
        check.due("no fourth letter", x.post(3, 0), Check.BAD);
        check.due("60", x.day(), 1);
        check.due("20", x.day(), 1);
        check.due("nobody", x.day(), 0);
    }

    private static void imageOfNothing() {
        LetterDebts x = owing();
        check.due("keep", x.keep(1), 0);
        x.debt(0, 0);
        x.letter(0);
        x.call(0, 1);
        x.day();
        x.call(0, 2);
        check.due("back", x.back(1), 0);
        for (int what = 3; what <= 6; what++) {
            check.due("count " + what, x.count(what), 0);
        }
        check.due("no such debt", x.about(0, 0), Check.BAD);
        check.due("no such letter", x.post(0, 0), Check.BAD);
        check.due("nobody in the line", x.day(), 0);
        check.due("the firm still", x.count(1), 1);
    }

    /** As many as there may be, kept and brought back whole. */
    private static void imagesOfFullLines() {
        LetterDebts x = new LetterDebts();
        Scenes.full(x);
        x.keep(0);
        x.back(1);
        check.due("twenty debts", x.count(3), 20);
        check.due("no letters", x.count(4), 0);
        check.due("an empty line", x.count(5), 0);
        x.back(0);
        check.due("twenty debts again", x.count(3), 20);
        check.due("thirty letters", x.count(4), 30);
        check.due("forty calls", x.count(5), 40);
        check.due("the last letter", x.post(29, 0), 9);
        check.due("a 31st letter", x.letter(0), Check.FULL);
        check.due("a 41st call", x.call(0, 1), Check.FULL);
        check.due("a 21st debt", x.debt(0, 2), Check.FULL);
        // 1 to 40 minutes: 1 .. 10 are 55, 11 .. 14 are 50, then ever fewer.
        int[] heard = {10, 4, 3, 3};
        for (int h : heard) {
            check.due("heard", x.day(), h);
        }
    }

    private static void countsAtLimits() {
        LetterDebts x = new LetterDebts();
        Scenes.full(x);
        int[] want = {6, 3, 0, 20, 30, 40, 0, 300, 0, 0, 0};
        for (int what = 0; what < want.length; what++) {
            check.due("count " + what, x.count(what), want[what]);
        }
        LetterDebts slips = new LetterDebts();
        for (int p = 0; p < 6; p++) {
            slips.firm(p, 0, 9, 0);
            for (int f = 0; f < 10; f++) {
                slips.slip(p, f, 0);
                check.due("slips of all", slips.count(2), 10 * p + f + 1);
            }
            check.due("firms of all", slips.count(1), p + 1);
        }
    }

    /** An object is good for 512 calls: the last is answered as the first. */
    private static void fiveHundredAndTwelveCalls() {
        LetterDebts x = new LetterDebts();
        for (int i = 1; i <= 102; i++) {
            check.due("call " + (5 * i - 4), x.type(' ', 1), 1);
            check.due("call " + (5 * i - 3), x.rules(), 0);
            check.due("call " + (5 * i - 2), x.place(1, 1, i % 100), (i - 1) % 100);
            check.due("call " + (5 * i - 1), x.day(), 0);
            check.due("call " + 5 * i, x.keep(i % 2), i);
        }
        check.due("call 511", x.back(1), 101);
        check.due("call 512", x.count(6), 101);
    }
}
