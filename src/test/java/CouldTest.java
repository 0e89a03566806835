/** Promises 9 to 14: what COULD BE, OWED, STANDS, SETTLES, TELLS MOST. */
public final class CouldTest {
    private static final Check check = new Check();
    private static final String HALF = "from 0 base 30 free 4 take 1/2;";

    public static void main(String[] args) {
        could();
        owed();
        owedByDays();
        stands();
        span();
        settles();
        tells();
        bad();
        check.end();
    }

    private static void could() {
        LetterDebts x = new LetterDebts();
        check.due("no spans", x.could(0, 0), 1);
        x.firm(0, 0, 1, 20);
        check.due("two with 20", x.could(0, 0), 21);
        x.firm(0, 2, 2, 7);
        check.due("one more with 7", x.could(0, 0), 21);
        x.firm(0, 4, 5, 39);
        check.due("two with 39", x.could(0, 0), 42);
        Check.days(x, 1);
        x.firm(1, 0, 9, 100);
        check.due("ten with 100, as of day 0", x.could(1, 0), 1);
        check.due("ten with 100", x.could(1, 1), 237631827);
        x.slip(1, 3, 0);
        check.due("nine with 100", x.could(1, 200), x.could(1, 1));
        check.due("another person", x.could(2, 200), 1);
    }

    private static void owed() {
        LetterDebts x = Check.with("from 0 base 20 free 5 take 2/3;");
        // DUE: 20 up to 6, then 19 18 18 17 16 16 15 14 14 13 12 12 11 10 for 7 .. 20.
        x.firm(0, 1, 3, 20);
        check.due("by the average 7 7 6", x.owed(0, 0, 0), 60 - 19 - 19 - 20);
        check.due("by the true pays 0", x.owed(0, 0, 3), 0);
        x.pay(0, 1, 1, 20);
        check.due("by a true pay 20", x.owed(0, 0, 3), 10);
        // 6 6 8: 2 more; 20 0 0: 10 more.
        check.due("least", x.owed(0, 0, 1), 2);
        check.due("most", x.owed(0, 0, 2), 10);
        x.pay(0, 1, 0, 20);
        check.due("told the whole: average", x.owed(0, 0, 0), 0);
        check.due("told the whole: least", x.owed(0, 0, 1), 0);
        check.due("told the whole: most", x.owed(0, 0, 2), 0);
        x.pay(0, 1, 0, 7);
        check.due("less than paid, 0 at least", x.owed(0, 0, 1), 1);
        x.pay(0, 0, 0, 20);
        check.due("told outside of spans", x.owed(0, 0, 2), 9);
    }

    private static void owedByDays() {
        LetterDebts x = Check.with("from 1 base 10 free 0 take 1/1; from 3 base 20 free 0 take 1/1;");
        Check.days(x, 1);
        x.firm(0, 0, 0, 8);
        Check.days(x, 1);
        x.firm(0, 5, 5, 20);
        check.due("no firm as of day 0", x.owed(0, 0, 2), 0);
        check.due("one as of day 1", x.owed(0, 1, 2), 8);
        check.due("two as of day 2", x.owed(0, 2, 2), 18);
        check.due("the rule of day 3", x.owed(0, 3, 2), 28);
    }

    private static void stands() {
        LetterDebts x = Check.with(HALF);
        check.due("no spans", x.stands(0, 0), 1);
        x.firm(0, 0, 1, 4);
        check.due("free pays", x.stands(0, 0), 1);
        x.firm(0, 2, 3, 20);
        check.due("it may be 8 to 4", x.stands(0, 0), 0);
        Check.days(x, 1);
        x.slip(0, 2, 4);
        check.due("as of day 0 still not", x.stands(0, 0), 0);
        check.due("one slip tells all", x.stands(0, 1), 1);
    }

    private static void span() {
        LetterDebts x = new LetterDebts();
        x.firm(0, 2, 4, 31);
        check.due("outside", x.span(0, 0, 1, 0), Check.STATE);
        check.due("least", x.span(0, 0, 2, 0), 0);
        check.due("most", x.span(0, 0, 2, 1), 20);
        Check.days(x, 3);
        x.slip(0, 3, 5);
        check.due("least of the rest", x.span(0, 3, 2, 0), 6);
        check.due("most of the rest", x.span(0, 3, 4, 1), 20);
        check.due("shown, least", x.span(0, 3, 3, 0), 5);
        check.due("shown, most", x.span(0, 3, 3, 1), 5);
        check.due("as of day 2, least", x.span(0, 2, 3, 0), 0);
        check.due("as of day 2, most", x.span(0, 2, 3, 1), 20);
        x.firm(0, 6, 7, 9);
        check.due("as of day 2, no span", x.span(0, 2, 6, 0), Check.STATE);
        check.due("no more than the sum", x.span(0, 3, 7, 1), 9);
    }

    private static void settles() {
        LetterDebts x = Check.with("from 0 base 40 free 2 take 3/4;");
        check.due("nothing to settle", x.settles(0, 0, 0), 0);
        check.due("nothing to settle, set", x.settles(0, 0, 1), 0);
        for (int f = 0; f < 5; f++) {
            x.pay(0, f, 1, 4 * f);
        }
        x.firm(0, 0, 4, 40);
        check.due("four of five", x.settles(0, 0, 0), 4);
        check.due("the first four", x.settles(0, 0, 1), 15);
        Check.days(x, 1);
        x.slip(0, 0, 0);
        check.due("three more", x.settles(0, 1, 0), 3);
        check.due("without the one that is shown", x.settles(0, 1, 1), 14);
        check.due("as of day 0", x.settles(0, 0, 1), 15);
        x.pay(0, 1, 1, 5);
        check.due("the sum is another", x.settles(0, 1, 0), Check.NONE);
        x.pay(0, 1, 1, 4);
        x.pay(0, 0, 1, 1);
        x.pay(0, 4, 1, 15);
        check.due("a slip is another, set", x.settles(0, 1, 1), Check.NONE);
        check.due("as of day 0 it could be", x.settles(0, 0, 0), 4);
        x.pay(0, 4, 1, 16);
        check.due("a slip is another, the rest are as the sum leaves them", x.settles(0, 1, 0), Check.NONE);
    }

    private static void tells() {
        // OWED is what pays are above 10.
        LetterDebts x = Check.with("from 0 base 40 free 10 take 1/1;");
        check.due("no span", x.tells(0, 0), Check.NONE);
        x.firm(0, 0, 1, 9);
        check.due("all stands, the first", x.tells(0, 0), 0);
        x.firm(0, 3, 4, 15);
        check.due("the first of the span that is open", x.tells(0, 0), 3);
        x.slip(0, 3, 11);
        check.due("all stands again", x.tells(0, 0), 0);
        x.slip(0, 0, 3);
        check.due("the first without a slip", x.tells(0, 0), 1);
        x.slip(0, 1, 6);
        x.slip(0, 4, 4);
        check.due("all are shown", x.tells(0, 0), Check.NONE);
        Check.days(x, 1);
        x.firm(0, 9, 9, 2);
        check.due("as of day 0", x.tells(0, 0), Check.NONE);
        check.due("as of day 1", x.tells(0, 1), 9);
    }

    private static void bad() {
        LetterDebts x = new LetterDebts();
        x.firm(0, 0, 9, 100);
        int[][] persons = {{-1, 0}, {6, 0}, {0, -1}, {0, 201}, {Integer.MAX_VALUE, 0}, {0, Integer.MIN_VALUE}};
        for (int[] a : persons) {
            check.due("could", x.could(a[0], a[1]), Check.BAD);
            check.due("owed", x.owed(a[0], a[1], 0), Check.BAD);
            check.due("stands", x.stands(a[0], a[1]), Check.BAD);
            check.due("span", x.span(a[0], a[1], 0, 0), Check.BAD);
            check.due("settles", x.settles(a[0], a[1], 0), Check.BAD);
            check.due("tells", x.tells(a[0], a[1]), Check.BAD);
        }
        check.due("owed what -1", x.owed(0, 0, -1), Check.BAD);
        check.due("owed what 4", x.owed(0, 0, 4), Check.BAD);
        check.due("span fortnight -1", x.span(0, 0, -1, 0), Check.BAD);
        check.due("span fortnight 10", x.span(0, 0, 10, 0), Check.BAD);
        check.due("span what -1", x.span(0, 0, 0, -1), Check.BAD);
        check.due("span what 2", x.span(0, 0, 0, 2), Check.BAD);
        check.due("bad ahead of state", x.span(1, 0, 0, 2), Check.BAD);
        check.due("settles what -1", x.settles(0, 0, -1), Check.BAD);
        check.due("settles what 2", x.settles(0, 0, 2), Check.BAD);
    }
}
