/** Objects that have been used, for tests that ask what a call does to them. None takes more than 260 calls. */
final class Scenes {
    static final int BUSY_DEBTS = 4;
    static final int BUSY_LETTERS = 5;

    private Scenes() { }

    static void fresh(LetterDebts x) { }

    /** Some of everything, on day 11; image 1 is of day 2, image 0 was never kept. */
    static void busy(LetterDebts x) {
        Check.ruled(x, "from 1 base 30 free 4 take 1/2; from 6 base 40 free 2 take 3/4;");
        toldAndTrue(x);
        x.place(0, 0, 7);
        x.day();
        x.firm(0, 0, 2, 31);
        x.firm(1, 3, 7, 60);
        x.call(4, 33);
        x.debt(0, 2);
        x.letter(0);
        x.place(0, 1, 7);
        x.letter(0);
        x.debt(1, 0);
        x.letter(1);
        x.day();
        x.keep(1);
        x.slip(0, 1, 11);
        x.firm(0, 5, 6, 9);
        x.debt(1, 2);
        x.letter(2);
        Check.days(x, 9);
        x.hold(0, 3, 1, 1);
        x.hold(1, 45, 1, 1);
        x.set(2);
        x.debt(0, 2);
        x.letter(3);
        x.place(1, 0, 20);
        line(x);
        x.weight(7, 0, 1);
        Check.typed(x, "from 3 base");
    }

    private static void toldAndTrue(LetterDebts x) {
        for (int f = 0; f < 3; f++) {
            x.pay(0, f, 0, 2 * f);
            x.pay(0, f, 1, 10 + f % 2);
        }
        for (int f = 3; f < 8; f++) {
            x.pay(1, f, 1, 12);
        }
        x.pay(0, 5, 1, 9);
    }

    private static void line(LetterDebts x) {
        int[] minutes = {20, 40, 1, 60, 30, 29, 2};
        for (int i = 0; i < minutes.length; i++) {
            x.call(i % 6, minutes[i]);
        }
    }

    /** So many rules, of days 0, 1, 2 .. */
    static String rules(int n) {
        StringBuilder s = new StringBuilder();
        for (int i = 0; i < n; i++) {
            s.append("from ").append(i).append(" base ").append(40 + i).append(" free 2 take 1/1;");
        }
        return s.toString();
    }

    /** As many debts, letters, calls, bytes, rules and firms of person 0 as there may be; both images kept. */
    static void full(LetterDebts x) {
        Check.ruled(x, rules(6));
        for (int i = 0; i < 3; i++) {
            x.firm(0, 3 * i, 3 * i + 1, 25);
        }
        x.keep(0);
        for (int i = 0; i < 20; i++) {
            x.debt(0, i % 3);
        }
        x.keep(1);
        for (int i = 0; i < 30; i++) {
            x.letter(i % 20);
        }
        for (int i = 0; i < 40; i++) {
            x.call(i % 6, 1 + i);
        }
        Check.typed(x, " ".repeat(300));
    }

    /** Day 200, with a line that no day hears any more. */
    static void lastDay(LetterDebts x) {
        Check.ruled(x, "from 0 base 30 free 4 take 1/2;");
        x.firm(0, 0, 2, 31);
        x.debt(0, 2);
        Check.days(x, 198);
        x.letter(0);
        x.keep(0);
        Check.days(x, 2);
        x.letter(0);
        x.call(0, 30);
        x.call(1, 31);
    }
}
