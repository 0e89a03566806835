/** Promises 6 to 8: what was TOLD, FIRMS, SLIPS. */
public final class PersonsTest {
    private static final Check check = new Check();

    public static void main(String[] args) {
        pay();
        firm();
        slip();
        slipAfterBack();
        check.end();
    }

    private static void pay() {
        LetterDebts x = Check.with("from 0 base 20 free 0 take 1/1;");
        check.due("told", x.pay(0, 0, 0, 20), 0);
        check.due("told was", x.pay(0, 0, 0, 7), 20);
        check.due("true is another", x.pay(0, 0, 1, 3), 0);
        check.due("true was", x.pay(0, 0, 1, 0), 3);
        check.due("of another fortnight", x.pay(0, 9, 0, 1), 0);
        check.due("of another person", x.pay(5, 0, 0, 1), 0);
        check.due("person -1", x.pay(-1, 0, 0, 1), Check.BAD);
        check.due("person 6", x.pay(6, 0, 0, 1), Check.BAD);
        check.due("fortnight -1", x.pay(0, -1, 0, 1), Check.BAD);
        check.due("fortnight 10", x.pay(0, 10, 0, 1), Check.BAD);
        check.due("what -1", x.pay(0, 0, -1, 1), Check.BAD);
        check.due("what 2", x.pay(0, 0, 2, 1), Check.BAD);
        check.due("v -1", x.pay(0, 0, 0, -1), Check.BAD);
        check.due("v 21", x.pay(0, 0, 0, 21), Check.BAD);
        check.due("nothing changed", x.pay(0, 0, 0, 7), 7);
    }

    private static void firm() {
        LetterDebts x = new LetterDebts();
        check.due("end ahead", x.firm(0, 3, 2, 0), Check.BAD);
        check.due("from -1", x.firm(0, -1, 2, 0), Check.BAD);
        check.due("to 10", x.firm(0, 0, 10, 0), Check.BAD);
        check.due("from 10", x.firm(0, 10, 10, 0), Check.BAD);
        check.due("sum -1", x.firm(0, 0, 0, -1), Check.BAD);
        check.due("sum 21 of 1", x.firm(0, 0, 0, 21), Check.BAD);
        check.due("sum 201", x.firm(0, 0, 9, 201), Check.BAD);
        check.due("person 6", x.firm(6, 0, 0, 0), Check.BAD);
        check.due("person -1", x.firm(-1, 0, 0, 0), Check.BAD);
        check.due("none so far", x.count(1), 0);
        check.due("one", x.firm(0, 2, 3, 40), 1);
        check.due("over its end", x.firm(0, 3, 4, 0), Check.STATE);
        check.due("over its beginning", x.firm(0, 0, 2, 0), Check.STATE);
        check.due("around it", x.firm(0, 0, 9, 0), Check.STATE);
        check.due("inside it", x.firm(0, 3, 3, 0), Check.STATE);
        check.due("bad ahead of state", x.firm(0, 3, 3, 21), Check.BAD);
        check.due("two", x.firm(0, 0, 1, 0), 2);
        check.due("three", x.firm(0, 9, 9, 20), 3);
        check.due("full", x.firm(0, 5, 5, 1), Check.FULL);
        check.due("state ahead of full", x.firm(0, 9, 9, 1), Check.STATE);
        check.due("another person's", x.firm(1, 0, 9, 200), 1);
        check.due("of all", x.count(1), 4);
    }

    private static void slip() {
        LetterDebts x = new LetterDebts();
        check.due("no span", x.slip(0, 0, 0), Check.STATE);
        x.firm(0, 0, 2, 31);
        x.firm(0, 7, 8, 5);
        check.due("person 6", x.slip(6, 0, 0), Check.BAD);
        check.due("fortnight 10", x.slip(0, 10, 0), Check.BAD);
        check.due("fortnight -1", x.slip(0, -1, 0), Check.BAD);
        check.due("pay 21", x.slip(0, 0, 21), Check.BAD);
        check.due("pay -1", x.slip(0, 0, -1), Check.BAD);
        check.due("other fortnight", x.slip(0, 3, 0), Check.STATE);
        check.due("more than the sum", x.slip(0, 7, 6), Check.STATE);
        // 26 are left for two: 6 with 20 .. 20 with 6; the other span has 6 ways.
        check.due("first", x.slip(0, 1, 5), 15 * 6);
        check.due("it has one", x.slip(0, 1, 5), Check.STATE);
        check.due("too little", x.slip(0, 0, 5), Check.STATE);
        check.due("one slip", x.count(2), 1);
        check.due("just enough", x.slip(0, 0, 6), 6);
        check.due("not what is left", x.slip(0, 2, 19), Check.STATE);
        check.due("what is left", x.slip(0, 2, 20), 6);
        check.due("nothing, too", x.slip(0, 7, 0), 1);
        check.due("four slips", x.count(2), 4);
    }

    /** Days that an image has brought back: as of TODAY what is shown later does not count. */
    private static void slipAfterBack() {
        LetterDebts x = new LetterDebts();
        x.firm(0, 0, 1, 20);
        x.keep(0);
        Check.days(x, 5);
        x.firm(0, 5, 6, 10);
        check.due("on day 5", x.slip(0, 0, 5), 11);
        x.back(0);
        check.due("as of day 0", x.could(0, 0), 21);
        check.due("it has one, of day 5", x.slip(0, 0, 5), Check.STATE);
        check.due("it can't be with that of day 5", x.slip(0, 1, 14), Check.STATE);
        check.due("it can", x.slip(0, 1, 15), 1);
        check.due("as of day 5", x.could(0, 5), 11);
        check.due("no two spans", x.firm(0, 6, 7, 1), Check.STATE);
    }
}
