/** PAYS, FIRMS, SPANS, THE AVERAGE and SLIPS, at each limit that the document tells (promises 6 to 8, 12). */
public final class PersonsEdgesTest {
    private static final Check check = new Check();
    /** DUE is 99 less the PAY, so that OWED is the PAY where nothing was TOLD. */
    private static final String ONE_FOR_ONE = "from 0 base 99 free 0 take 1/1;";

    public static void main(String[] args) {
        paysAtFirst();
        paysAtLimits();
        threeFirms();
        spansThatTouch();
        sumsAtLimits();
        averages();
        firmsByDays();
        slipsAtLimits();
        slipsOfOne();
        slipsOfEmptyAndFullSpans();
        lastSlip();
        slipsByDays();
        slipsOfTheLastDay();
        spansOfPays();
        spansOfEachFirm();
        laterFirmsAndSlips();
        check.end();
    }

    private static void paysAtFirst() {
        LetterDebts x = new LetterDebts();
        for (int p = 0; p < 6; p++) {
            for (int f = 0; f < 10; f++) {
                check.due("told at first", x.pay(p, f, 0, (p + f) % 21), 0);
                check.due("true at first", x.pay(p, f, 1, (p + 2 * f) % 21), 0);
            }
        }
        for (int p = 0; p < 6; p++) {
            for (int f = 0; f < 10; f++) {
                check.due("told of " + p + ", " + f, x.pay(p, f, 0, 0), (p + f) % 21);
                check.due("true of " + p + ", " + f, x.pay(p, f, 1, 0), (p + 2 * f) % 21);
            }
        }
    }

    private static void paysAtLimits() {
        LetterDebts x = new LetterDebts();
        int was = 0;
        for (int v : new int[] {20, 19, 1, 0, 20}) {
            check.due("told " + v, x.pay(5, 9, 0, v), was);
            check.due("true " + v, x.pay(5, 9, 1, v), was);
            was = v;
        }
        check.due("told 21", x.pay(5, 9, 0, 21), Check.BAD);
        check.due("told -1", x.pay(5, 9, 0, -1), Check.BAD);
        check.due("told is 20 still", x.pay(5, 9, 0, 20), 20);
        check.due("true 21", x.pay(5, 9, 1, 21), Check.BAD);
        check.due("true -1", x.pay(5, 9, 1, -1), Check.BAD);
        check.due("true is 20 still", x.pay(5, 9, 1, 20), 20);
    }

    private static void threeFirms() {
        LetterDebts x = new LetterDebts();
        for (int p = 0; p < 6; p++) {
            for (int i = 0; i < 3; i++) {
                check.due("firm " + i + " of " + p, x.firm(p, 2 * i, 2 * i, i), i + 1);
                check.due("of all", x.count(1), 3 * p + i + 1);
            }
            check.due("a 4th of " + p, x.firm(p, 7, 8, 0), Check.FULL);
            check.due("none more", x.count(1), 3 * p + 3);
        }
    }

    /** No FORTNIGHT is in two SPANS; spans side by side are fine. */
    private static void spansThatTouch() {
        int[][] others = {{0, 3, 2}, {0, 4, -2}, {0, 2, 2}, {6, 9, -2}, {7, 9, 2}, {8, 9, 2}, {4, 6, -2}, {5, 5, -2},
            {3, 7, -2}, {0, 9, -2}, {4, 4, -2}, {6, 6, -2}, {3, 3, 2}, {7, 7, 2}};
        for (int[] s : others) {
            LetterDebts x = new LetterDebts();
            x.firm(0, 4, 6, 10);
            check.due("a span " + s[0] + ".." + s[1], x.firm(0, s[0], s[1], 1), s[2]);
            check.due("another person's", x.firm(1, s[0], s[1], 1), 1);
        }
        LetterDebts x = new LetterDebts();
        check.due("the first alone", x.firm(0, 0, 0, 20), 1);
        check.due("the last alone", x.firm(0, 9, 9, 20), 2);
        check.due("all between", x.firm(0, 1, 8, 160), 3);
        check.due("one way", x.could(0, 0), 1);
    }

    /** Sums of 0 and of 20 for each leave one row; 1 more or less leaves one for each fortnight. */
    private static void sumsAtLimits() {
        for (int n = 1; n <= 10; n++) {
            int top = 20 * n;
            int[][] sums = {{0, 1}, {1, n}, {top - 1, n}, {top, 1}, {top + 1, Check.BAD}, {-1, Check.BAD}};
            for (int[] s : sums) {
                LetterDebts x = new LetterDebts();
                check.due(s[0] + " for " + n, x.firm(0, 10 - n, 9, s[0]), s[1] < 0 ? s[1] : 1);
                check.due("ways of " + s[0] + " for " + n, x.could(0, 0), Math.max(1, s[1]));
                check.due("firms", x.count(1), s[1] < 0 ? 0 : 1);
            }
        }
    }

    /** Coin by coin to one fortnight after another, from the first on. */
    private static void averages() {
        for (int n = 1; n <= 10; n++) {
            for (int sum = 0; sum <= 20 * n; sum++) {
                int[] row = new int[n];
                for (int i = 0; i < sum; i++) {
                    row[i % n]++;
                }
                LetterDebts x = Check.with(ONE_FOR_ONE);
                int from = (10 - n) / 2;
                x.firm(4, from, from + n - 1, sum);
                for (int f = 0; f < n; f++) {
                    check.due("average " + f + " of " + sum + " for " + n, x.weight(4, 4, from + f), 1 + row[f]);
                }
                check.due("owed by it", x.owed(4, 0, 0), sum);
            }
        }
    }

    /** A FIRM counts from its day on: not the day ahead of it. */
    private static void firmsByDays() {
        for (int day : new int[] {0, 1, 100, 199, 200}) {
            LetterDebts x = Check.with(ONE_FOR_ONE);
            Check.days(x, day);
            check.due("firm on " + day, x.firm(0, 0, 1, 20), 1);
            for (int d : new int[] {0, day - 1, day, day + 1, 200}) {
                boolean counts = d >= day;
                if (d >= 0 && d <= 200) {
                    check.due("could as of " + d, x.could(0, d), counts ? 21 : 1);
                    check.due("owed as of " + d, x.owed(0, d, 0), counts ? 20 : 0);
                    check.due("span as of " + d, x.span(0, d, 0, 1), counts ? 20 : Check.STATE);
                    check.due("tells as of " + d, x.tells(0, d), counts ? 0 : Check.NONE);
                }
            }
        }
    }

    /** 31 for three: with 5 and 6 shown just 20 is left; a slip may be what the others can make up. */
    private static void slipsAtLimits() {
        for (int low = 0; low <= 20; low++) {
            LetterDebts x = new LetterDebts();
            x.firm(0, 0, 1, 20 + low);
            check.due("one step below " + low, x.slip(0, 0, low - 1), low == 0 ? Check.BAD : Check.STATE);
            check.due("no slip", x.count(2), 0);
            check.due(low + " itself", x.slip(0, 0, low), 1);
            check.due("a slip", x.count(2), 1);
            LetterDebts y = new LetterDebts();
            y.firm(0, 0, 1, low);
            check.due("one step above " + low, y.slip(0, 1, low + 1), low == 20 ? Check.BAD : Check.STATE);
            check.due("no slip so far", y.count(2), 0);
            check.due(low + " at most", y.slip(0, 1, low), 1);
        }
        LetterDebts inside = new LetterDebts();
        inside.firm(0, 0, 2, 31);
        check.due("5 of 31", inside.slip(0, 1, 5), 15);
        check.due("5 more leave 21", inside.slip(0, 2, 5), Check.STATE);
        check.due("7 leave 19", inside.slip(0, 2, 7), 1);
    }

    private static void slipsOfOne() {
        LetterDebts x = new LetterDebts();
        x.firm(0, 4, 4, 13);
        check.due("12 of 13", x.slip(0, 4, 12), Check.STATE);
        check.due("14 of 13", x.slip(0, 4, 14), Check.STATE);
        check.due("ahead of it", x.slip(0, 3, 13), Check.STATE);
        check.due("behind it", x.slip(0, 5, 13), Check.STATE);
        check.due("13 of 13", x.slip(0, 4, 13), 1);
        check.due("once more", x.slip(0, 4, 13), Check.STATE);
        check.due("one slip", x.count(2), 1);
    }

    private static void slipsOfEmptyAndFullSpans() {
        LetterDebts x = new LetterDebts();
        x.firm(0, 0, 9, 0);
        x.firm(1, 0, 9, 200);
        for (int f = 0; f < 10; f++) {
            check.due("1 of nothing", x.slip(0, f, 1), Check.STATE);
            check.due("0 of nothing", x.slip(0, f, 0), 1);
            check.due("19 of all", x.slip(1, f, 19), Check.STATE);
            check.due("20 of all", x.slip(1, f, 20), 1);
        }
        check.due("twenty slips", x.count(2), 20);
        check.due("nothing to tell", x.tells(0, 0), Check.NONE);
        check.due("nothing to tell of all", x.tells(1, 0), Check.NONE);
    }

    /** The last fortnight of a span has what is left, and no step more or less. */
    private static void lastSlip() {
        for (int left = 0; left <= 20; left++) {
            LetterDebts x = new LetterDebts();
            x.firm(2, 5, 7, 9 + 8 + left);
            x.slip(2, 6, 9);
            x.slip(2, 5, 8);
            check.due("one less than " + left, x.slip(2, 7, left - 1), left == 0 ? Check.BAD : Check.STATE);
            check.due("one more than " + left, x.slip(2, 7, left + 1), left == 20 ? Check.BAD : Check.STATE);
            check.due("least", x.span(2, 0, 7, 0), left);
            check.due("most", x.span(2, 0, 7, 1), left);
            check.due("just " + left, x.slip(2, 7, left), 1);
        }
    }

    /** A SLIP counts from its day on: not the day ahead of it. */
    private static void slipsByDays() {
        for (int day : new int[] {1, 2, 100, 199, 200}) {
            LetterDebts x = Check.with(ONE_FOR_ONE);
            x.firm(0, 0, 2, 30);
            Check.days(x, day);
            check.due("slip on " + day, x.slip(0, 0, 10), 21);
            check.due("as of the day ahead", x.could(0, day - 1), 331);
            check.due("as of its day", x.could(0, day), 21);
            check.due("as of the last", x.could(0, 200), 21);
            check.due("least ahead", x.span(0, day - 1, 0, 0), 0);
            check.due("least on it", x.span(0, day, 0, 0), 10);
            check.due("most ahead", x.span(0, day - 1, 0, 1), 20);
            check.due("most on it", x.span(0, day, 0, 1), 10);
            check.due("tells ahead", x.tells(0, day - 1), 0);
            check.due("tells on it", x.tells(0, day), 1);
        }
    }

    private static void slipsOfTheLastDay() {
        LetterDebts x = new LetterDebts();
        Check.days(x, 200);
        check.due("firm", x.firm(0, 0, 1, 1), 1);
        check.due("slip", x.slip(0, 0, 1), 1);
        check.due("as of 200", x.could(0, 200), 1);
        check.due("as of 199", x.could(0, 199), 1);
        check.due("its most as of 200", x.span(0, 200, 0, 1), 1);
        check.due("no span as of 199", x.span(0, 199, 0, 1), Check.STATE);
    }

    /** The least is what 20 for all others leave, 0 at least; the most is the sum, 20 at most. */
    private static void spansOfPays() {
        for (int n = 1; n <= 10; n++) {
            int others = 20 * (n - 1);
            for (int sum : new int[] {0, 1, 19, 20, 21, others - 1, others, others + 1, others + 19, others + 20}) {
                if (sum < 0 || sum > 20 * n) {
                    continue;
                }
                LetterDebts x = new LetterDebts();
                x.firm(0, 0, n - 1, sum);
                for (int f : new int[] {0, n - 1}) {
                    check.due("least of " + sum + " for " + n, x.span(0, 0, f, 0), Math.max(0, sum - others));
                    check.due("most of " + sum + " for " + n, x.span(0, 0, f, 1), Math.min(20, sum));
                }
                check.due("behind " + n, x.span(0, 0, n, 0), n == 10 ? Check.BAD : Check.STATE);
            }
        }
    }

    /** Each of three spans by its own sum and slips. */
    private static void spansOfEachFirm() {
        LetterDebts x = new LetterDebts();
        x.firm(0, 6, 7, 25);
        x.firm(0, 0, 2, 45);
        x.firm(0, 4, 4, 9);
        int[][] want = {{0, 5, 20}, {1, 5, 20}, {2, 5, 20}, {4, 9, 9}, {6, 5, 20}, {7, 5, 20}};
        for (int[] w : want) {
            check.due("least of " + w[0], x.span(0, 0, w[0], 0), w[1]);
            check.due("most of " + w[0], x.span(0, 0, w[0], 1), w[2]);
        }
        check.due("18 in the second", x.slip(0, 1, 18), 14 * 16);
        check.due("least of the second", x.span(0, 0, 2, 0), 7);
        check.due("most of the second", x.span(0, 0, 0, 1), 20);
        check.due("6 in the second", x.slip(0, 0, 6), Check.STATE);
        check.due("7 in the second", x.slip(0, 0, 7), 16);
        check.due("least of the first still", x.span(0, 0, 7, 0), 5);
        for (int f : new int[] {3, 5, 8, 9}) {
            check.due("in no span: " + f, x.span(0, 0, f, 0), Check.STATE);
            check.due("no slip: " + f, x.slip(0, f, 5), Check.STATE);
        }
    }

    /** Images bring TODAY back, not FIRMS and SLIPS: these stand for all later calls, of whatever day. */
    private static void laterFirmsAndSlips() {
        LetterDebts x = new LetterDebts();
        x.keep(0);
        Check.days(x, 10);
        x.firm(0, 0, 1, 30);
        x.back(0);
        check.due("a span of day 10", x.firm(0, 1, 2, 5), Check.STATE);
        check.due("beside it, on day 0", x.firm(0, 2, 3, 5), 2);
        check.due("below the least of a span of day 10", x.slip(0, 0, 9), Check.STATE);
        check.due("as of day 0 the other span's ways alone", x.slip(0, 0, 10), 6);
        check.due("as of day 10", x.could(0, 10), 6);
        check.due("it is shown as of day 10", x.span(0, 10, 0, 1), 10);
        check.due("in no span as of day 9", x.span(0, 9, 0, 1), Check.STATE);
    }
}
