import java.math.BigInteger;

/** What COULD BE, is OWED, STANDS, SETTLES and TELLS MOST, at each limit that the document tells (promises 8 to 11, 13, 14). */
public final class CouldEdgesTest {
    private static final Check check = new Check();
    private static final BigInteger MODULUS = BigInteger.valueOf(1000000007);
    /** OWED is what PAYS are above 10, where nothing was TOLD. */
    private static final String ABOVE_TEN = "from 0 base 40 free 10 take 1/1;";

    public static void main(String[] args) {
        modulusOfOneSpan();
        modulusAtItsEdge();
        modulusOfThreeSpans();
        modulusOfASlip();
        owedDownToNothing();
        owedAtMost();
        owedByRulesOfTheDay();
        owedByNoRuleAtOnce();
        owedByOtherRulesAtOnce();
        owedInSpansAlone();
        leastAndMostOfThree();
        owedWithSlips();
        standsAtItsEdge();
        standsAtNothing();
        oneAlways();
        settlesNone();
        settlesNothing();
        settlesFewest();
        settlesLeastSet();
        settlesAll();
        settlesByDays();
        tellsNone();
        tellsFirst();
        tellsLeast();
        tellsByDays();
        check.end();
    }

    /** In how many ways n PAYS 0 .. 20 have a sum. */
    private static BigInteger ways(int n, int sum) {
        BigInteger[] row = new BigInteger[sum + 1];
        for (int s = 0; s <= sum; s++) {
            row[s] = s == 0 ? BigInteger.ONE : BigInteger.ZERO;
        }
        for (int i = 0; i < n; i++) {
            BigInteger[] next = new BigInteger[sum + 1];
            for (int s = 0; s <= sum; s++) {
                next[s] = BigInteger.ZERO;
                for (int p = 0; p <= 20 && p <= s; p++) {
                    next[s] = next[s].add(row[s - p]);
                }
            }
            row = next;
        }
        return row[sum];
    }

    private static int mod(BigInteger v) {
        return v.mod(MODULUS).intValue();
    }

    private static void modulusOfOneSpan() {
        for (int n = 1; n <= 10; n++) {
            for (int sum = 0; sum <= 20 * n; sum += n) {
                LetterDebts x = new LetterDebts();
                x.firm(3, 10 - n, 9, sum);
                check.due(sum + " for " + n, x.could(3, 0), mod(ways(n, sum)));
            }
        }
    }

    /** For each length the last sum with ways below the modulus, and the first with ways above it. */
    private static void modulusAtItsEdge() {
        int edges = 0;
        for (int n = 8; n <= 10; n++) {
            for (int sum = 0; sum < 10 * n; sum++) {
                boolean below = ways(n, sum).compareTo(MODULUS) < 0;
                if (below && ways(n, sum + 1).compareTo(MODULUS) >= 0) {
                    edges++;
                    for (int s = sum; s <= sum + 1; s++) {
                        LetterDebts x = new LetterDebts();
                        x.firm(3, 10 - n, 9, s);
                        check.due(s + " for " + n, x.could(3, 0), mod(ways(n, s)));
                    }
                    check.holds("whole below it", mod(ways(n, sum)) == ways(n, sum).intValue());
                    check.holds("less than whole above it", mod(ways(n, sum + 1)) < ways(n, sum + 1).longValue());
                }
            }
        }
        check.holds("there are such sums", edges >= 2);
    }

    private static void modulusOfThreeSpans() {
        int[][] lengths = {{4, 3, 3}, {1, 8, 1}, {5, 5, 0}, {6, 2, 2}, {9, 1, 0}};
        for (int[] l : lengths) {
            for (int each : new int[] {3, 9, 10, 17}) {
                LetterDebts x = new LetterDebts();
                BigInteger want = BigInteger.ONE;
                int from = 0;
                for (int n : l) {
                    if (n > 0) {
                        x.firm(0, from, from + n - 1, each * n);
                        want = want.multiply(ways(n, each * n));
                        from += n;
                    }
                }
                check.due("three spans of " + each + " each", x.could(0, 0), mod(want));
            }
        }
    }

    private static void modulusOfASlip() {
        LetterDebts x = new LetterDebts();
        x.firm(0, 0, 9, 100);
        int left = 100;
        for (int f = 9; f >= 0; f--) {
            int pay = f == 0 ? left : f % 2 == 0 ? 13 : 7;
            left -= pay;
            check.due("slip of " + f, x.slip(0, f, pay), mod(ways(f, left)));
        }
        check.due("all are shown", x.could(0, 0), 1);
    }

    /** PAID less DUE by the row: 1, 0 and what would be less than 0. */
    private static void owedDownToNothing() {
        int[][] told = {{8, 2}, {9, 1}, {10, 0}, {11, 0}, {20, 0}};
        for (int[] t : told) {
            LetterDebts x = Check.with("from 0 base 40 free 0 take 1/1;");
            x.firm(0, 0, 0, 10);
            x.pay(0, 0, 0, t[0]);
            x.pay(0, 0, 1, 10);
            for (int what = 0; what < 4; what++) {
                check.due("owed, told " + t[0], x.owed(0, 0, what), t[1]);
            }
            check.due("a debt, told " + t[0], x.debt(0, 0), t[1] > 0 ? 0 : Check.STATE);
        }
        LetterDebts x = Check.with("from 0 base 40 free 0 take 1/1;");
        x.firm(0, 0, 1, 10);
        x.firm(0, 5, 5, 3);
        x.pay(0, 0, 0, 12);
        check.due("what is less in one counts against the other", x.owed(0, 0, 0), 1);
        x.pay(0, 1, 0, 1);
        check.due("just 0", x.owed(0, 0, 0), 0);
        x.pay(0, 5, 0, 20);
        check.due("0 at least", x.owed(0, 0, 2), 0);
    }

    private static void owedAtMost() {
        LetterDebts x = Check.with("from 0 base 99 free 0 take 20/1;");
        x.firm(0, 0, 9, 200);
        for (int what = 0; what < 3; what++) {
            check.due("ten times 99", x.owed(0, 0, what), 990);
        }
        check.due("true pays of 0", x.owed(0, 0, 3), 0);
        check.due("a debt of 990", x.debt(0, 2), 0);
        check.due("its amount", x.about(0, 1), 990);
        for (int f = 0; f < 10; f++) {
            x.pay(0, f, 0, 20);
        }
        check.due("told all", x.owed(0, 0, 2), 0);
    }

    /** All FORTNIGHTS by the RULE of the day that is asked for: not by that of the firm or of TODAY. */
    private static void owedByRulesOfTheDay() {
        LetterDebts x = Check.with("from 2 base 10 free 0 take 1/1; from 5 base 60 free 0 take 3/1;");
        x.firm(0, 0, 0, 8);
        x.pay(0, 0, 0, 3);
        x.pay(0, 0, 1, 7);
        int[][] days = {{0, 0, 0}, {1, 0, 0}, {2, 5, 4}, {4, 5, 4}, {5, 15, 12}, {200, 15, 12}};
        for (int[] d : days) {
            check.due("owed as of " + d[0], x.owed(0, d[0], 1), d[1]);
            check.due("owed by the true pay as of " + d[0], x.owed(0, d[0], 3), d[2]);
        }
        Check.ruled(x, "from 4 base 50 free 0 take 2/1;");
        check.due("by other rules", x.owed(0, 4, 1), 10);
        check.due("none of them yet", x.owed(0, 3, 1), 0);
        Check.ruled(x, "");
        check.due("by no rules", x.owed(0, 200, 2), 0);
    }

    /** Rules that are gone count for nothing, even if the next question is of a day that no rule has. */
    private static void owedByNoRuleAtOnce() {
        String[] others = {"", "from 9 base 50 free 0 take 2/1;", "from 1 base 50 free 0 take 2/1; from 9 base 9 free 0 take 1/1;"};
        for (String other : others) {
            for (int what = 0; what < 4; what++) {
                LetterDebts x = Check.with("from 0 base 10 free 0 take 1/1;");
                x.firm(0, 0, 0, 8);
                x.pay(0, 0, 1, 8);
                check.due("by the rule", x.owed(0, 0, what), 8);
                Check.ruled(x, other);
                check.due("by none of '" + other + "'", x.owed(0, 0, what), 0);
                check.due("weight by none", x.weight(4, 0, 0), 1);
                check.due("no debt by none", x.debt(0, 2), Check.STATE);
                Check.ruled(x, "from 0 base 30 free 0 take 3/1;");
                check.due("by another rule", x.owed(0, 0, what), 24);
            }
        }
    }

    /** Rules in the place of those that are gone count at once, for each question, with as many rules or others. */
    private static void owedByOtherRulesAtOnce() {
        String first = "from 0 base 10 free 0 take 1/1; from 3 base 20 free 0 take 2/1;";
        String other = "from 0 base 40 free 4 take 3/1; from 3 base 40 free 6 take 4/1;";
        int[][] days = {{2, 8, 12}, {3, 16, 8}};
        for (int[] d : days) {
            for (int what = 0; what < 4; what++) {
                LetterDebts x = Check.with(first);
                x.firm(0, 0, 0, 8);
                x.pay(0, 0, 1, 8);
                check.due("by the first rules", x.owed(0, d[0], what), d[1]);
                Check.ruled(x, other);
                check.due("by the others, " + what, x.owed(0, d[0], what), d[2]);
                Check.ruled(x, first);
                check.due("by the first again, " + what, x.owed(0, d[0], what), d[1]);
            }
            LetterDebts x = Check.with(first);
            x.firm(0, 0, 0, 8);
            Check.days(x, d[0]);
            check.due("weight by the first", x.weight(4, 0, 0), 1 + d[1]);
            Check.ruled(x, other);
            check.due("weight by the others", x.weight(4, 0, 0), 1 + d[2]);
            check.due("a debt by the others", x.about(x.debt(0, 1), 1), d[2]);
            Check.ruled(x, first);
            check.due("a debt by the first again", x.about(x.debt(0, 2), 1), d[1]);
            check.due("that of the others", x.right(0, d[0]), d[2] > d[1] ? 2 : 0);
        }
    }

    private static void owedInSpansAlone() {
        LetterDebts x = Check.with("from 0 base 40 free 0 take 1/1;");
        x.firm(0, 3, 4, 9);
        for (int f = 0; f < 10; f++) {
            x.pay(0, f, 1, f == 3 ? 9 : f == 4 ? 0 : 20);
        }
        for (int what = 0; what < 4; what++) {
            check.due("9 in the span", x.owed(0, 0, what), 9);
        }
        check.due("true pays outside don't matter", x.settles(0, 0, 0), 0);
        x.pay(0, 2, 0, 20);
        x.pay(0, 5, 0, 20);
        check.due("told outside doesn't matter", x.owed(0, 0, 2), 9);
    }

    /** Each row of three pays written down, by rules that round. */
    private static void leastAndMostOfThree() {
        String[] rules = {"base 30 free 0 take 1/3", "base 20 free 7 take 2/3", "base 9 free 3 take 20/7", "base 99 free 1 take 5/2"};
        for (String rule : rules) {
            for (int sum = 0; sum <= 60; sum++) {
                LetterDebts x = Check.with("from 0 " + rule + ";");
                x.firm(0, 4, 6, sum);
                x.pay(0, 5, 0, 6);
                int paid = 2 * x.due(0, 0) + x.due(6, 0);
                int[] due = new int[21];
                for (int p = 0; p <= 20; p++) {
                    due[p] = x.due(p, 0);
                }
                int least = Integer.MAX_VALUE;
                int most = 0;
                for (int a = 0; a <= 20; a++) {
                    for (int b = 0; b <= 20; b++) {
                        int c = sum - a - b;
                        if (c >= 0 && c <= 20) {
                            int owed = Math.max(0, paid - due[a] - due[b] - due[c]);
                            least = Math.min(least, owed);
                            most = Math.max(most, owed);
                        }
                    }
                }
                check.due("least of " + sum + " by " + rule, x.owed(0, 0, 1), least);
                check.due("most of " + sum + " by " + rule, x.owed(0, 0, 2), most);
                check.due("stands with " + sum + " by " + rule, x.stands(0, 0), least == most ? 1 : 0);
            }
        }
    }

    /** OWED is what PAYS are above 10, with one slip after the other. */
    private static void owedWithSlips() {
        LetterDebts x = Check.with(ABOVE_TEN);
        x.firm(0, 0, 2, 36);
        x.firm(0, 5, 7, 36);
        int[][] slips = {{0, 13}, {5, 20}, {1, 12}, {6, 16}};
        // A span of 36: 6 if all have 10 or more, 16 if it is 20 16 0. 13 shown: 6 to 13; 20 shown: 10 to 16.
        int[][] want = {{12, 32}, {12, 29}, {16, 29}, {16, 22}, {22, 22}};
        for (int i = 0; i < want.length; i++) {
            check.due("least with " + i + " slips", x.owed(0, 0, 1), want[i][0]);
            check.due("most with " + i + " slips", x.owed(0, 0, 2), want[i][1]);
            check.due("the average pays no heed to slips", x.owed(0, 0, 0), 12);
            check.due("stands with " + i + " slips", x.stands(0, 0), want[i][0] == want[i][1] ? 1 : 0);
            if (i < slips.length) {
                x.slip(0, slips[i][0], slips[i][1]);
            }
        }
    }

    /** OWED is what PAYS are above 10: 10 and 11 for two may be LEAST 0, MOST 0 or 1. */
    private static void standsAtItsEdge() {
        int[][] sums = {{9, 0, 0}, {10, 0, 0}, {11, 0, 1}, {12, 0, 2}, {20, 0, 10}, {21, 1, 10}, {29, 9, 10}, {30, 10, 10}, {31, 11, 11}, {40, 20, 20}};
        for (int[] s : sums) {
            LetterDebts x = Check.with(ABOVE_TEN);
            x.firm(0, 0, 1, s[0]);
            check.due("least of " + s[0], x.owed(0, 0, 1), s[1]);
            check.due("most of " + s[0], x.owed(0, 0, 2), s[2]);
            check.due("stands with " + s[0], x.stands(0, 0), s[1] == s[2] ? 1 : 0);
        }
    }

    /** Where MOST would be 0 or less, both are 0, and IT STANDS whatever it was. */
    private static void standsAtNothing() {
        int[][] told = {{10, 0, 10, 0}, {19, 0, 1, 0}, {20, 0, 0, 1}};
        for (int[] t : told) {
            LetterDebts x = Check.with(ABOVE_TEN);
            x.firm(0, 0, 2, 20);
            x.pay(0, 2, 0, t[0]);
            check.due("least, told " + t[0], x.owed(0, 0, 1), t[1]);
            check.due("most, told " + t[0], x.owed(0, 0, 2), t[2]);
            check.due("stands, told " + t[0], x.stands(0, 0), t[3]);
        }
        LetterDebts x = new LetterDebts();
        x.firm(0, 0, 9, 100);
        check.due("no rules", x.stands(0, 0), 1);
        check.due("no spans", x.stands(1, 0), 1);
        check.due("no spans, the last day", x.stands(1, 200), 1);
    }

    /** Slips of any pay on any day, those ahead of days that were there already too: some row COULD BE as of every day. */
    private static void oneAlways() {
        for (int start = 0; start <= 20; start++) {
            LetterDebts x = Check.with(ABOVE_TEN);
            x.firm(0, 0, 2, 31);
            x.keep(0);
            Check.days(x, 6);
            x.firm(0, 5, 6, 9);
            x.keep(1);
            int[] fortnights = {2, 5, 0, 6, 1};
            for (int f : fortnights) {
                x.back(f % 2);
                firstThatIsTaken(x, f, start);
                for (int day : new int[] {0, 5, 6, 200}) {
                    check.holds("some row as of " + day + " with a slip of " + f, x.could(0, day) >= 1);
                    check.holds("least and most as of " + day, x.owed(0, day, 1) <= x.owed(0, day, 2));
                    check.holds("pays as of " + day, x.span(0, day, 1, 0) <= x.span(0, day, 1, 1));
                }
            }
            check.due("all five are shown, from " + start, x.count(2), 5);
            check.due("one row as of the last day", x.could(0, 200), 1);
        }
    }

    private static void firstThatIsTaken(LetterDebts x, int fortnight, int start) {
        int answer = Check.STATE;
        for (int i = 0; i <= 20 && answer == Check.STATE; i++) {
            answer = x.slip(0, fortnight, (start + i) % 21);
        }
        check.holds("some slip of " + fortnight + " is taken", answer >= 0);
    }

    /** TRUE PAYS that miss the sum by one step, or a slip by one, COULD not BE. */
    private static void settlesNone() {
        LetterDebts x = Check.with(ABOVE_TEN);
        x.firm(0, 0, 1, 20);
        x.firm(0, 7, 7, 5);
        x.pay(0, 7, 1, 5);
        x.pay(0, 0, 1, 15);
        int[][] rows = {{4, Check.NONE}, {5, 1}, {6, Check.NONE}};
        for (int[] r : rows) {
            x.pay(0, 1, 1, r[0]);
            check.due("true pays 15 and " + r[0], x.settles(0, 0, 1), r[1]);
            check.due("how many with " + r[0], x.settles(0, 0, 0), r[1]);
        }
        x.pay(0, 1, 1, 5);
        x.pay(0, 7, 1, 4);
        check.due("another span's true pay", x.settles(0, 0, 0), Check.NONE);
        x.pay(0, 7, 1, 5);
        x.slip(0, 0, 15);
        check.due("as the slip says", x.settles(0, 0, 0), 0);
        x.pay(0, 0, 1, 14);
        x.pay(0, 1, 1, 6);
        check.due("one less than the slip", x.settles(0, 0, 0), Check.NONE);
        x.pay(0, 0, 1, 16);
        x.pay(0, 1, 1, 4);
        check.due("one more than the slip", x.settles(0, 0, 1), Check.NONE);
        x.pay(0, 1, 1, 5);
        check.due("one more, the other as the sum leaves it", x.settles(0, 0, 1), Check.NONE);
        x.pay(0, 0, 1, 14);
        check.due("one less, the other as the sum leaves it", x.settles(0, 0, 0), Check.NONE);
        x.pay(0, 0, 1, 15);
        check.due("as the slip says again", x.settles(0, 0, 0), 0);
        LetterDebts two = Check.with(ABOVE_TEN);
        two.firm(0, 0, 0, 5);
        two.firm(0, 1, 1, 6);
        two.pay(0, 0, 1, 6);
        two.pay(0, 1, 1, 5);
        check.due("the sums are made up across spans", two.settles(0, 0, 0), Check.NONE);
    }

    /** What stands already needs no slip. */
    private static void settlesNothing() {
        LetterDebts x = Check.with(ABOVE_TEN);
        check.due("no span: how many", x.settles(0, 0, 0), 0);
        check.due("no span: the set", x.settles(0, 0, 1), 0);
        x.firm(0, 0, 1, 10);
        x.pay(0, 0, 1, 10);
        check.due("it stands: how many", x.settles(0, 0, 0), 0);
        check.due("it stands: the set", x.settles(0, 0, 1), 0);
        x.pay(0, 0, 1, 9);
        check.due("it stands, but that can't be", x.settles(0, 0, 0), Check.NONE);
    }

    private static void settlesFewest() {
        // One slip is enough where it leaves 10 or less for the other two.
        int[][] rows = {{12, 0, 3, 1, 1}, {0, 12, 3, 1, 2}, {0, 3, 12, 1, 4}, {5, 5, 5, 1, 1}, {5, 10, 0, 1, 1}, {4, 11, 0, 1, 2},
            {10, 10, 10, 2, 3}, {20, 5, 5, 1, 1}, {19, 5, 6, 2, 3}, {5, 20, 5, 1, 2}, {6, 19, 5, 2, 3}};
        for (int[] r : rows) {
            LetterDebts x = Check.with(ABOVE_TEN);
            x.firm(0, 0, 2, r[0] + r[1] + r[2]);
            for (int f = 0; f < 3; f++) {
                x.pay(0, f, 1, r[f]);
            }
            String row = r[0] + " " + r[1] + " " + r[2];
            check.due("how many for " + row, x.settles(0, 0, 0), r[3]);
            check.due("the set for " + row, x.settles(0, 0, 1), r[4]);
        }
    }

    /** Of sets with as many, the least as bits; a fortnight with a slip is never in it. */
    private static void settlesLeastSet() {
        LetterDebts x = Check.with(ABOVE_TEN);
        x.firm(0, 8, 9, 20);
        x.pay(0, 8, 1, 10);
        x.pay(0, 9, 1, 10);
        check.due("either of the last two", x.settles(0, 0, 1), 1 << 8);
        x.firm(0, 0, 1, 20);
        x.pay(0, 0, 1, 4);
        x.pay(0, 1, 1, 16);
        check.due("one of each", x.settles(0, 0, 1), 1 | 1 << 8);
        check.due("two of them", x.settles(0, 0, 0), 2);
        x.slip(0, 8, 10);
        check.due("the other is shown", x.settles(0, 0, 1), 1);
        x.slip(0, 1, 16);
        check.due("all is", x.settles(0, 0, 1), 0);
    }

    /** Ten in one span: nine tell the tenth. */
    private static void settlesAll() {
        LetterDebts x = Check.with("from 0 base 99 free 5 take 1/1;");
        x.firm(0, 0, 9, 50);
        for (int f = 0; f < 10; f++) {
            x.pay(0, f, 1, 5);
        }
        check.due("nine of ten", x.settles(0, 0, 0), 9);
        check.due("the first nine", x.settles(0, 0, 1), 511);
        LetterDebts one = Check.with("from 0 base 99 free 5 take 1/1;");
        one.firm(0, 0, 0, 7);
        one.pay(0, 0, 1, 7);
        check.due("one alone stands", one.settles(0, 0, 1), 0);
    }

    private static void settlesByDays() {
        LetterDebts x = Check.with("from 0 base 40 free 10 take 1/1; from 9 base 40 free 20 take 1/1;");
        Check.days(x, 3);
        x.firm(0, 0, 1, 20);
        x.pay(0, 0, 1, 20);
        Check.days(x, 2);
        x.slip(0, 0, 19);
        int[][] days = {{2, 0}, {3, 1}, {4, 1}, {5, Check.NONE}, {9, Check.NONE}};
        for (int[] d : days) {
            check.due("as of " + d[0], x.settles(0, d[0], 1), d[1]);
        }
        x.pay(0, 0, 1, 19);
        x.pay(0, 1, 1, 1);
        check.due("as the slip says, ahead of it", x.settles(0, 4, 1), 1);
        check.due("as the slip says, on its day", x.settles(0, 5, 1), 0);
        check.due("by the rule of day 9", x.settles(0, 9, 1), 0);
    }

    private static void tellsNone() {
        LetterDebts x = Check.with(ABOVE_TEN);
        check.due("no span", x.tells(0, 0), Check.NONE);
        x.firm(0, 9, 9, 3);
        check.due("one fortnight", x.tells(0, 0), 9);
        x.slip(0, 9, 3);
        check.due("it is shown", x.tells(0, 0), Check.NONE);
        x.firm(0, 0, 0, 3);
        check.due("another one", x.tells(0, 0), 0);
        check.due("another person", x.tells(1, 0), Check.NONE);
    }

    /** Of several the first; one that is shown is passed by. */
    private static void tellsFirst() {
        LetterDebts x = Check.with(ABOVE_TEN);
        x.firm(0, 2, 6, 55);
        int left = 55;
        for (int f = 2; f < 6; f++) {
            check.due("the first without a slip", x.tells(0, 0), f);
            x.slip(0, f, 11);
            left -= 11;
        }
        check.due("the last", x.tells(0, 0), 6);
        x.slip(0, 6, left);
        check.due("none", x.tells(0, 0), Check.NONE);
    }

    /** Spans of the same length, where one is in doubt by a step more or less than the other. */
    private static void tellsLeast() {
        int[][] sums = {{12, 13, 3}, {13, 12, 0}, {12, 12, 0}, {13, 13, 0}, {10, 11, 3}, {11, 10, 0}, {28, 12, 0}, {28, 13, 3}, {28, 11, 0}};
        for (int[] s : sums) {
            LetterDebts x = Check.with(ABOVE_TEN);
            x.firm(0, 0, 1, s[0]);
            x.firm(0, 3, 4, s[1]);
            check.due("tells of " + s[0] + " and " + s[1], x.tells(0, 0), s[2]);
        }
    }

    private static void tellsByDays() {
        LetterDebts x = Check.with(ABOVE_TEN);
        Check.days(x, 1);
        x.firm(0, 4, 5, 12);
        Check.days(x, 1);
        x.firm(0, 0, 1, 12);
        Check.days(x, 1);
        x.slip(0, 0, 12);
        int[] want = {Check.NONE, 4, 0, 4, 4};
        for (int d = 0; d < want.length; d++) {
            check.due("as of day " + d, x.tells(0, d), want[d]);
        }
    }
}
