/** DEBTS and their coins, at each limit that the document tells (promises 15 to 19). */
public final class DebtsEdgesTest {
    private static final Check check = new Check();
    /** OWED is the sum less what was TOLD. */
    private static final String ONE_FOR_ONE = "from 0 base 99 free 0 take 1/1;";
    private static final String ABOVE_TEN = "from 0 base 40 free 10 take 1/1;";

    public static void main(String[] args) {
        twentyDebts();
        amountsAtLimits();
        amountsStay();
        sharesAtLimits();
        asFarAsThereAre();
        oneDebtToTheNext();
        tenths();
        tenthsOfEachHold();
        sevenDays();
        sevenDaysToTheLast();
        onlyOnesOwnDebts();
        setOfOpen();
        setOfHeld();
        setOfBoth();
        setOfOneCoin();
        lostOfSeveral();
        everyCoinSomewhere();
        rightAtLimits();
        rightByDays();
        check.end();
    }

    /** Person 0 owes so much by all three, told by firms of up to 200. */
    private static LetterDebts owing(int coins) {
        LetterDebts x = Check.with(ONE_FOR_ONE);
        x.firm(0, 0, 9, coins);
        return x;
    }

    /** A debt of so many coins, that may be held. */
    private static LetterDebts ripe(int coins) {
        LetterDebts x = owing(coins);
        x.debt(0, 0);
        x.letter(0);
        Check.days(x, 9);
        return x;
    }

    private static void twentyDebts() {
        LetterDebts x = owing(5);
        x.keep(0);
        for (int i = 0; i < 20; i++) {
            check.due("debt " + i, x.debt(0, i % 3), i);
            check.due("so many", x.count(3), i + 1);
        }
        check.due("the last", x.about(19, 1), 5);
        check.due("a 21st", x.debt(0, 0), Check.FULL);
        check.due("another person's 21st, nothing owed", x.debt(1, 0), Check.STATE);
        check.due("there is none", x.about(20, 1), Check.BAD);
        x.set(3);
        check.due("one that is set still counts", x.debt(0, 0), Check.FULL);
        x.back(0);
        check.due("from the first on again", x.debt(0, 0), 0);
        check.due("the next", x.debt(0, 0), 1);
    }

    private static void amountsAtLimits() {
        int[] sums = {0, 1, 2, 199, 200};
        for (int sum : sums) {
            for (int by = 0; by < 3; by++) {
                LetterDebts x = owing(sum);
                check.due("debt of " + sum, x.debt(0, by), sum == 0 ? Check.STATE : 0);
                check.due("debts", x.count(3), sum == 0 ? 0 : 1);
                check.due("its amount", x.about(0, 1), sum == 0 ? Check.BAD : sum);
            }
        }
        LetterDebts x = Check.with(ABOVE_TEN);
        x.firm(0, 0, 1, 21);
        check.due("average 11 10", x.debt(0, 0), 0);
        check.due("least", x.debt(0, 1), 1);
        check.due("most", x.debt(0, 2), 2);
        int[] want = {1, 1, 10};
        for (int d = 0; d < 3; d++) {
            check.due("amount of " + d, x.about(d, 1), want[d]);
        }
        x.slip(0, 0, 20);
        check.due("least with a slip", x.debt(0, 1), 3);
        check.due("its amount", x.about(3, 1), 10);
    }

    private static void amountsStay() {
        LetterDebts x = owing(50);
        Check.days(x, 200);
        x.debt(0, 0);
        x.pay(0, 0, 0, 20);
        Check.ruled(x, "from 0 base 9 free 0 take 1/1;");
        int[] want = {0, 50, 50, 0, 0, 200, 0};
        for (int what = 0; what < want.length; what++) {
            check.due("about " + what, x.about(0, what), want[what]);
        }
    }

    /** A SHARE A by C of a pay, rounded down. */
    private static void sharesAtLimits() {
        int[][] holds = {{0, 1, 1}, {0, 20, 20}, {1, 1, 1}, {1, 1, 2}, {2, 1, 2}, {3, 1, 2}, {7, 1, 8}, {8, 1, 8}, {9, 1, 8},
            {19, 1, 20}, {20, 1, 20}, {21, 1, 20}, {39, 1, 20}, {40, 1, 20}, {1, 19, 20}, {2, 19, 20}, {100, 19, 20},
            {101, 19, 20}, {998, 1, 20}, {999, 1, 20}, {999, 1, 5}, {150, 20, 20}, {10, 2, 3}, {11, 2, 3}};
        for (int[] h : holds) {
            LetterDebts x = ripe(200);
            int want = h[0] * h[1] / h[2];
            check.due("share " + h[1] + " by " + h[2] + " of " + h[0], x.hold(0, h[0], h[1], h[2]), want);
            check.due("held", x.about(0, 3), want);
            check.due("open", x.about(0, 2), 200 - want);
            check.due("of all", x.count(8), want);
        }
    }

    private static void asFarAsThereAre() {
        for (int pay : new int[] {39, 40, 41, 999}) {
            LetterDebts x = ripe(40);
            int want = Math.min(40, pay);
            check.due("40 of " + pay, x.hold(0, pay, 1, 1), want);
            check.due("open", x.about(0, 2), 40 - want);
            check.due("what is left then", x.hold(0, 999, 1, 1), 40 - want);
            check.due("nothing more", x.hold(0, 999, 1, 1), 0);
            check.due("all", x.about(0, 3), 40);
        }
    }

    /** Two debts of 30: a share up to the first's last coin, and one step to each side. */
    private static void oneDebtToTheNext() {
        int[][] shares = {{29, 29, 0}, {30, 30, 0}, {31, 30, 1}, {59, 30, 29}, {60, 30, 30}, {61, 30, 30}};
        for (int[] s : shares) {
            LetterDebts x = owing(30);
            x.debt(0, 0);
            x.debt(0, 0);
            x.letter(1);
            x.letter(0);
            Check.days(x, 9);
            check.due("of " + s[0], x.hold(0, s[0], 1, 1), s[1] + s[2]);
            check.due("the oldest", x.about(0, 3), s[1]);
            check.due("the next", x.about(1, 3), s[2]);
            check.due("a tenth of the oldest", x.about(0, 6), (s[1] + 9) / 10);
            check.due("a tenth of the next", x.about(1, 6), (s[2] + 9) / 10);
            check.due("of both", x.count(9), (s[1] + 9) / 10 + (s[2] + 9) / 10);
        }
    }

    private static void tenths() {
        int[][] tenths = {{0, 0}, {1, 1}, {2, 1}, {9, 1}, {10, 1}, {11, 2}, {19, 2}, {20, 2}, {21, 3}, {99, 10}, {100, 10},
            {101, 11}, {199, 20}, {200, 20}};
        for (int[] t : tenths) {
            LetterDebts x = ripe(200);
            check.due("hold " + t[0], x.hold(0, t[0], 1, 1), t[0]);
            check.due("a tenth of " + t[0], x.about(0, 6), t[1]);
            check.due("of all", x.count(9), t[1]);
            check.due("held whole", x.about(0, 3), t[0]);
        }
    }

    private static void tenthsOfEachHold() {
        LetterDebts x = ripe(200);
        for (int i = 1; i <= 10; i++) {
            x.hold(0, 1, 1, 1);
            check.due("a coin of each coin", x.about(0, 6), i);
        }
        x.hold(0, 10, 1, 1);
        check.due("a coin of ten", x.about(0, 6), 11);
        x.hold(0, 11, 1, 1);
        check.due("two of eleven", x.count(9), 13);
    }

    /** Sent on day 0, come on day 2: no hold on days 0 to 8, hold from day 9 on. */
    private static void sevenDays() {
        for (int day = 0; day <= 11; day++) {
            LetterDebts x = owing(50);
            x.debt(0, 0);
            x.letter(0);
            Check.days(x, day);
            check.due("hold on day " + day, x.hold(0, 10, 1, 1), day < 9 ? 0 : 10);
            check.due("held on day " + day, x.about(0, 3), day < 9 ? 0 : 10);
            check.due("collectors on day " + day, x.count(9), day < 9 ? 0 : 1);
        }
    }

    private static void sevenDaysToTheLast() {
        for (int sent = 190; sent <= 192; sent++) {
            LetterDebts x = owing(50);
            x.debt(0, 0);
            Check.days(x, sent);
            x.letter(0);
            Check.days(x, 200 - sent);
            check.due("sent on " + sent, x.hold(0, 10, 1, 1), sent <= 191 ? 10 : 0);
        }
    }

    /** HOLD passes by debts of others, debts without a letter that came, and debts that are set. */
    private static void onlyOnesOwnDebts() {
        LetterDebts x = owing(20);
        x.firm(5, 0, 0, 20);
        x.debt(0, 0);
        x.debt(5, 0);
        x.debt(0, 0);
        x.debt(0, 0);
        x.letter(0);
        x.letter(1);
        x.letter(3);
        Check.days(x, 9);
        x.set(0);
        check.due("the last alone", x.hold(0, 999, 1, 1), 20);
        check.due("set", x.about(0, 3), 0);
        check.due("another's", x.about(1, 3), 0);
        check.due("no letter", x.about(2, 3), 0);
        check.due("the last", x.about(3, 3), 20);
        check.due("the other's own", x.hold(5, 7, 1, 1), 7);
        check.due("no debts at all", x.hold(3, 999, 1, 1), 0);
    }

    private static void setOfOpen() {
        LetterDebts x = ripe(60);
        check.due("nothing to give back", x.set(0), 0);
        coins(x, 0, 0, 60, 0);
        check.due("nothing is lost", x.count(10), 0);
        check.due("already", x.set(0), Check.STATE);
        check.due("no hold of it", x.hold(0, 999, 1, 1), 0);
        check.due("a letter of it still", x.letter(0), 1);
    }

    private static void setOfHeld() {
        LetterDebts x = ripe(60);
        x.hold(0, 60, 1, 1);
        coins(x, 0, 60, 0, 6);
        check.due("all is given back", x.set(0), 60);
        coins(x, 0, 0, 60, 6);
        check.due("lost", x.count(10), 6);
        check.due("already", x.set(0), Check.STATE);
        check.due("lost once", x.count(10), 6);
    }

    private static void setOfBoth() {
        for (int held : new int[] {1, 59}) {
            LetterDebts x = ripe(60);
            x.hold(0, held, 1, 1);
            check.due("given back", x.set(0), held);
            coins(x, 0, 0, 60, (held + 9) / 10);
            check.due("none is held", x.count(8), 0);
            check.due("lost", x.count(10), (held + 9) / 10);
            check.due("collectors keep it", x.count(9), (held + 9) / 10);
            check.due("its amount stays", x.about(0, 1), 60);
        }
    }

    private static void setOfOneCoin() {
        LetterDebts x = ripe(1);
        check.due("its coin", x.hold(0, 999, 1, 1), 1);
        check.due("collectors have it all", x.about(0, 6), 1);
        check.due("given back whole", x.set(0), 1);
        coins(x, 0, 0, 1, 1);
        check.due("already", x.set(0), Check.STATE);
        check.due("lost", x.count(10), 1);
    }

    private static void lostOfSeveral() {
        LetterDebts x = owing(50);
        for (int d = 0; d < 4; d++) {
            x.debt(0, 0);
            x.letter(d);
        }
        Check.days(x, 9);
        x.hold(0, 161, 1, 1);
        check.due("collectors had 5 5 5 2", x.count(9), 17);
        check.due("nothing is lost", x.count(10), 0);
        check.due("the second", x.set(1), 50);
        check.due("5 are lost", x.count(10), 5);
        check.due("the last", x.set(3), 11);
        check.due("7 are lost", x.count(10), 7);
        check.due("the first", x.set(0), 50);
        check.due("12 are lost", x.count(10), 12);
        check.due("collectors had all of it", x.count(9), 17);
        check.due("50 are held", x.count(8), 50);
        check.due("the rest of the third", x.hold(0, 999, 1, 1), 0);
    }

    private static void coins(LetterDebts x, int open, int held, int set, int had) {
        int[] want = {open, held, set};
        for (int i = 0; i < 3; i++) {
            check.due("coins " + (2 + i), x.about(0, 2 + i), want[i]);
        }
        check.due("what collectors had", x.about(0, 6), had);
    }

    private static void everyCoinSomewhere() {
        LetterDebts x = owing(37);
        for (int d = 0; d < 5; d++) {
            x.debt(0, 0);
            x.letter(d);
        }
        Check.days(x, 9);
        for (int i = 0; i < 12; i++) {
            x.hold(0, 13 + i, 3, 4);
            if (i % 4 == 3) {
                x.set(i / 4);
            }
            int held = 0;
            for (int d = 0; d < 5; d++) {
                check.due("coins of " + d, x.about(d, 2) + x.about(d, 3) + x.about(d, 4), 37);
                held += x.about(d, 3);
            }
            check.due("held of all", x.count(8), held);
        }
    }

    /** LEAST 1 and MOST 10: debts of 1, 2, 9, 10 and 11. */
    private static void rightAtLimits() {
        int[][] debts = {{20, 1, 0}, {19, 2, 1}, {12, 9, 1}, {11, 10, 1}, {10, 11, 2}, {0, 21, 2}};
        LetterDebts x = Check.with(ONE_FOR_ONE);
        x.firm(0, 0, 1, 21);
        for (int d = 0; d < debts.length; d++) {
            x.pay(0, 0, 0, debts[d][0]);
            check.due("debt", x.debt(0, 0), d);
            check.due("amount", x.about(d, 1), debts[d][1]);
        }
        x.pay(0, 0, 0, 0);
        Check.ruled(x, ABOVE_TEN);
        for (int d = 0; d < debts.length; d++) {
            check.due("a debt of " + debts[d][1], x.right(d, 0), debts[d][2]);
        }
        x.slip(0, 0, 20);
        // LEAST and MOST are 10 now.
        int[] want = {0, 0, 0, 0, 2, 2};
        for (int d = 0; d < want.length; d++) {
            check.due("a debt of " + debts[d][1] + ", shown", x.right(d, 0), want[d]);
        }
        x.set(5);
        check.due("set aside, wrong still", x.right(5, 0), 2);
    }

    private static void rightByDays() {
        LetterDebts x = Check.with("from 0 base 40 free 10 take 1/1; from 6 base 40 free 9 take 1/1;");
        Check.days(x, 2);
        x.firm(0, 0, 1, 21);
        x.debt(0, 2);
        Check.days(x, 2);
        x.slip(0, 0, 11);
        int[] want = {2, 2, 1, 1, 2, 2, 2, 2};
        for (int d = 0; d < want.length; d++) {
            check.due("as of day " + d, x.right(0, d), want[d]);
        }
        LetterDebts y = Check.with("from 0 base 40 free 10 take 1/1; from 6 base 40 free 9 take 1/1;");
        y.firm(0, 0, 1, 30);
        y.debt(0, 2);
        check.due("10 of 10", y.right(0, 5), 0);
        check.due("10 of 12", y.right(0, 6), 0);
        check.due("the last day", y.right(0, 200), 0);
        check.due("beyond it", y.right(0, 201), Check.BAD);
    }
}
