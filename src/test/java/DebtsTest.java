/** Promises 15 to 19: DEBTS. */
public final class DebtsTest {
    private static final Check check = new Check();

    public static void main(String[] args) {
        debt();
        hold();
        holdOldestFirst();
        holdByLetters();
        set();
        about();
        right();
        check.end();
    }

    /** Person 0 owes 2 to 10, person 1 just 20. */
    private static LetterDebts some() {
        LetterDebts x = Check.with("from 0 base 20 free 5 take 2/3; from 100 base 0 free 0 take 1/1;");
        x.firm(0, 1, 3, 20);
        x.firm(1, 0, 1, 40);
        return x;
    }

    private static void debt() {
        LetterDebts x = some();
        check.due("by average", x.debt(0, 0), 0);
        check.due("by least", x.debt(0, 1), 1);
        check.due("by most", x.debt(0, 2), 2);
        check.due("average", x.about(0, 1), 2);
        check.due("least", x.about(1, 1), 2);
        check.due("most", x.about(2, 1), 10);
        check.due("nothing owed", x.debt(2, 2), Check.STATE);
        check.due("by -1", x.debt(0, -1), Check.BAD);
        check.due("by 3", x.debt(0, 3), Check.BAD);
        check.due("person 6", x.debt(6, 0), Check.BAD);
        for (int i = 3; i < 20; i++) {
            check.due("debt " + i, x.debt(1, 0), i);
        }
        check.due("full", x.debt(1, 0), Check.FULL);
        check.due("state ahead of full", x.debt(2, 0), Check.STATE);
        check.due("bad ahead of full", x.debt(1, 3), Check.BAD);
        check.due("count", x.count(3), 20);
    }

    private static void hold() {
        LetterDebts x = some();
        x.debt(1, 0);
        x.debt(0, 2);
        x.debt(1, 1);
        for (int d = 0; d < 3; d++) {
            x.letter(d);
        }
        Check.days(x, 9);
        check.due("person -1", x.hold(-1, 9, 1, 1), Check.BAD);
        check.due("person 6", x.hold(6, 9, 1, 1), Check.BAD);
        check.due("pay -1", x.hold(1, -1, 1, 1), Check.BAD);
        check.due("pay 1000", x.hold(1, 1000, 1, 1), Check.BAD);
        check.due("part 0", x.hold(1, 9, 0, 1), Check.BAD);
        check.due("of 0", x.hold(1, 9, 1, 0), Check.BAD);
        check.due("of 21", x.hold(1, 9, 1, 21), Check.BAD);
        check.due("part 21", x.hold(1, 9, 21, 21), Check.BAD);
        check.due("part above of", x.hold(1, 9, 2, 1), Check.BAD);
        check.due("nothing held", x.count(8), 0);
        check.due("rounded down to 0", x.hold(1, 1, 19, 20), 0);
        check.due("no fee of nothing", x.count(9), 0);
        check.due("rounded down", x.hold(1, 7, 2, 4), 3);
        check.due("a tenth, rounded up", x.about(0, 6), 1);
        check.due("another hold, another tenth", x.hold(1, 1, 1, 1), 1);
        check.due("two coins", x.about(0, 6), 2);
        check.due("a share of 49, and 16 and 20 are open", x.hold(1, 999, 1, 20), 36);
        check.due("other persons' are open", x.about(1, 2), 10);
        check.due("the first is held", x.about(0, 3), 20);
        check.due("the second too", x.about(2, 3), 20);
        check.due("the first's tenths 1 1 2", x.about(0, 6), 4);
        check.due("the second's tenth", x.about(2, 6), 2);
        check.due("all that is held", x.count(8), 40);
        check.due("all that collectors had", x.count(9), 6);
        check.due("no debts", x.hold(4, 999, 1, 1), 0);
    }

    private static void holdOldestFirst() {
        LetterDebts x = some();
        x.debt(1, 0);
        x.debt(1, 0);
        x.letter(1);
        x.letter(0);
        Check.days(x, 9);
        check.due("one share", x.hold(1, 25, 1, 1), 25);
        check.due("the oldest", x.about(0, 3), 20);
        check.due("the rest", x.about(1, 3), 5);
        check.due("a tenth of each", x.count(9), 3);
    }

    private static void holdByLetters() {
        LetterDebts x = some();
        x.debt(1, 0);
        x.debt(1, 0);
        x.debt(1, 0);
        x.place(1, 0, 5);
        x.letter(0);
        x.place(1, 1, 5);
        x.letter(2);
        Check.days(x, 8);
        check.due("six days ago", x.hold(1, 30, 1, 1), 0);
        Check.days(x, 1);
        check.due("seven days ago: the third alone", x.hold(1, 30, 1, 1), 20);
        check.due("gone to another place", x.about(0, 3), 0);
        check.due("without a letter", x.about(1, 3), 0);
        check.due("the third", x.about(2, 3), 20);
        x.letter(0);
        Check.days(x, 9);
        check.due("a later letter has come", x.hold(1, 30, 1, 1), 20);
        check.due("the first", x.about(0, 3), 20);
    }

    private static void set() {
        LetterDebts x = some();
        x.debt(1, 0);
        x.debt(1, 0);
        x.letter(0);
        Check.days(x, 9);
        x.hold(1, 11, 1, 1);
        check.due("debt -1", x.set(-1), Check.BAD);
        check.due("debt 2", x.set(2), Check.BAD);
        check.due("given back", x.set(0), 11);
        check.due("already", x.set(0), Check.STATE);
        check.due("open", x.about(0, 2), 0);
        check.due("held", x.about(0, 3), 0);
        check.due("set", x.about(0, 4), 20);
        check.due("collectors keep it", x.about(0, 6), 2);
        check.due("collectors had", x.count(9), 2);
        check.due("lost", x.count(10), 2);
        check.due("none held", x.count(8), 0);
        check.due("no hold of what is set", x.hold(1, 999, 1, 1), 0);
        check.due("nothing was held", x.set(1), 0);
        check.due("lost is the same", x.count(10), 2);
    }

    private static void about() {
        LetterDebts x = some();
        Check.days(x, 4);
        x.debt(1, 2);
        int[] want = {1, 20, 20, 0, 0, 4, 0};
        for (int what = 0; what < 7; what++) {
            check.due("about " + what, x.about(0, what), want[what]);
        }
        check.due("what -1", x.about(0, -1), Check.BAD);
        check.due("what 7", x.about(0, 7), Check.BAD);
        check.due("debt -1", x.about(-1, 0), Check.BAD);
        check.due("debt 1", x.about(1, 0), Check.BAD);
    }

    private static void right() {
        LetterDebts x = some();
        x.debt(0, 2);
        x.debt(0, 1);
        check.due("above least", x.right(0, 0), 1);
        check.due("not above least", x.right(1, 0), 0);
        Check.days(x, 2);
        x.slip(0, 1, 6);
        x.slip(0, 2, 6);
        check.due("above most, too", x.right(0, 2), 2);
        check.due("least still", x.right(1, 2), 0);
        check.due("as of day 1", x.right(0, 1), 1);
        check.due("the rule of day 100", x.right(1, 100), 2);
        check.due("debt 2", x.right(2, 0), Check.BAD);
        check.due("debt -1", x.right(-1, 0), Check.BAD);
        check.due("day 201", x.right(0, 201), Check.BAD);
        check.due("day -1", x.right(0, -1), Check.BAD);
    }
}
