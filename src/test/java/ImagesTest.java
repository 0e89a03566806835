/** Promises 26 to 28: IMAGES, count. */
public final class ImagesTest {
    private static final Check check = new Check();

    public static void main(String[] args) {
        bad();
        keptAndBack();
        notKept();
        notKeptOfLaterDays();
        count();
        check.end();
    }

    private static void bad() {
        LetterDebts x = new LetterDebts();
        check.due("keep -1", x.keep(-1), Check.BAD);
        check.due("keep 2", x.keep(2), Check.BAD);
        check.due("back -1", x.back(-1), Check.BAD);
        check.due("back 2", x.back(2), Check.BAD);
        check.due("back of none", x.back(1), Check.STATE);
        check.due("keep 1", x.keep(1), 0);
        check.due("back of the other", x.back(0), Check.STATE);
        check.due("back 1", x.back(1), 0);
        check.due("count -1", x.count(-1), Check.BAD);
        check.due("count 11", x.count(11), Check.BAD);
    }

    private static LetterDebts busy() {
        LetterDebts x = Check.with("from 0 base 50 free 0 take 2/1;");
        x.firm(0, 0, 2, 55);
        x.debt(0, 0);
        x.debt(0, 1);
        x.letter(0);
        x.letter(1);
        Check.days(x, 9);
        x.hold(0, 45, 1, 1);
        x.set(1);
        x.call(0, 40);
        x.call(1, 41);
        return x;
    }

    private static void keptAndBack() {
        LetterDebts x = busy();
        check.due("keep", x.keep(0), 9);
        check.due("hold more", x.hold(0, 5, 1, 1), 5);
        check.due("set", x.set(0), 50);
        x.debt(0, 2);
        x.letter(2);
        check.due("heard", x.day(), 1);
        x.call(3, 1);
        check.due("keep the other", x.keep(1), 10);
        check.due("back", x.back(0), 9);
        check.due("debts", x.count(3), 2);
        check.due("letters", x.count(4), 2);
        check.due("line", x.count(5), 2);
        check.due("today", x.count(6), 9);
        check.due("held", x.count(8), 45);
        check.due("had", x.count(9), 5);
        check.due("lost", x.count(10), 0);
        check.due("open", x.about(0, 2), 65);
        check.due("the other's", x.back(1), 10);
        check.due("lost then", x.count(10), 6);
        check.due("letters then", x.count(4), 3);
        check.due("line then", x.count(5), 2);
        check.due("back once more", x.back(0), 9);
        check.due("the image is as it was", x.hold(0, 5, 1, 1), 5);
        check.due("and once more", x.back(0), 9);
        check.due("and as it was", x.count(8), 45);
    }

    /** Rules, text, pays, firms, slips, places and the trace are in no image. */
    private static void notKept() {
        LetterDebts x = busy();
        x.keep(0);
        Check.ruled(x, "from 0 base 7 free 0 take 1/1; from 5 base 8 free 0 take 1/1;");
        x.type(32, 1);
        x.pay(0, 0, 0, 3);
        x.pay(0, 0, 1, 4);
        x.firm(1, 0, 0, 2);
        x.slip(1, 0, 2);
        x.place(0, 0, 9);
        x.place(0, 1, 8);
        x.weight(0, 0, 0);
        x.back(0);
        check.due("rules", x.count(0), 2);
        check.due("firms", x.count(1), 2);
        check.due("slips", x.count(2), 1);
        check.due("text", x.count(7), 1);
        check.due("told", x.pay(0, 0, 0, 0), 3);
        check.due("truth", x.pay(0, 0, 1, 0), 4);
        check.due("lives", x.place(0, 0, 0), 9);
        check.due("known", x.place(0, 1, 0), 8);
        check.due("the new rule", x.due(0, 200), 8);
        check.due("the new span", x.span(1, 9, 0, 1), 2);
        check.due("trace", x.trace(), 1);
    }

    /** Told on a later day than the one that an image brings back, all that is in no image stands nevertheless. */
    private static void notKeptOfLaterDays() {
        LetterDebts x = busy();
        x.keep(0);
        x.day();
        x.firm(1, 0, 1, 5);
        x.slip(1, 0, 2);
        x.pay(1, 0, 0, 3);
        x.pay(1, 0, 1, 4);
        x.place(1, 0, 9);
        x.place(1, 1, 8);
        check.due("back", x.back(0), 9);
        check.due("firms", x.count(1), 2);
        check.due("slips", x.count(2), 1);
        check.due("told", x.pay(1, 0, 0, 3), 3);
        check.due("truth", x.pay(1, 0, 1, 4), 4);
        check.due("its span as of the later day", x.span(1, 10, 1, 1), 3);
        check.due("its slip as of the later day", x.span(1, 10, 0, 1), 2);
        check.due("no span as of TODAY", x.span(1, 9, 0, 1), Check.STATE);
        check.due("no other span there", x.firm(1, 1, 2, 5), Check.STATE);
        x.day();
        check.due("lives on the later day", x.place(1, 0, 0), 9);
        check.due("known on the later day", x.place(1, 1, 0), 8);
    }

    private static void count() {
        LetterDebts x = busy();
        x.type(0, 3);
        int[] want = {1, 1, 0, 2, 2, 2, 9, 3, 45, 5, 0};
        for (int what = 0; what < want.length; what++) {
            check.due("count " + what, x.count(what), want[what]);
        }
    }
}
