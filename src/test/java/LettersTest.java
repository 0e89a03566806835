/** Promises 20 to 24: PLACES, LETTERS, the line of calls, days. */
public final class LettersTest {
    private static final Check check = new Check();

    public static void main(String[] args) {
        place();
        placeAfterBack();
        letter();
        post();
        lateLetter();
        lastLetter();
        call();
        day();
        check.end();
    }

    private static LetterDebts withDebts() {
        LetterDebts x = Check.with("from 0 base 50 free 0 take 2/1;");
        x.firm(0, 0, 0, 20);
        x.firm(5, 0, 0, 20);
        x.debt(0, 0);
        x.debt(5, 0);
        return x;
    }

    private static void place() {
        LetterDebts x = new LetterDebts();
        check.due("lives", x.place(0, 0, 99), 0);
        check.due("knows is another", x.place(0, 1, 7), 0);
        check.due("lived", x.place(0, 0, 3), 99);
        Check.days(x, 10);
        check.due("lives on", x.place(0, 0, 4), 3);
        check.due("knows on", x.place(0, 1, 4), 7);
        check.due("another person", x.place(5, 0, 4), 0);
        check.due("person 6", x.place(6, 0, 4), Check.BAD);
        check.due("person -1", x.place(-1, 0, 4), Check.BAD);
        check.due("what -1", x.place(0, -1, 4), Check.BAD);
        check.due("what 2", x.place(0, 2, 4), Check.BAD);
        check.due("place -1", x.place(0, 0, -1), Check.BAD);
        check.due("place 100", x.place(0, 0, 100), Check.BAD);
        check.due("nothing changed", x.place(0, 0, 4), 4);
    }

    /** PLACES are in no image; from TODAY on is from TODAY on. */
    private static void placeAfterBack() {
        LetterDebts x = new LetterDebts();
        x.keep(0);
        Check.days(x, 5);
        x.place(0, 0, 8);
        x.back(0);
        check.due("as of day 0", x.place(0, 1, 1), 0);
        Check.days(x, 4);
        check.due("as of day 4", x.place(0, 0, 6), 0);
        Check.days(x, 1);
        check.due("as of day 5", x.place(0, 0, 6), 6);
    }

    private static void letter() {
        LetterDebts x = withDebts();
        check.due("debt -1", x.letter(-1), Check.BAD);
        check.due("debt 2", x.letter(2), Check.BAD);
        for (int i = 0; i < 30; i++) {
            check.due("letter " + i, x.letter(i % 2), i);
        }
        check.due("full", x.letter(0), Check.FULL);
        check.due("bad ahead of full", x.letter(2), Check.BAD);
        check.due("count", x.count(4), 30);
    }

    private static void post() {
        LetterDebts x = withDebts();
        Check.days(x, 3);
        x.place(5, 1, 42);
        x.letter(1);
        x.letter(0);
        check.due("debt", x.post(0, 0), 1);
        check.due("sent", x.post(0, 1), 3);
        check.due("place", x.post(0, 2), 42);
        check.due("on its way", x.post(0, 3), 0);
        x.place(5, 1, 43);
        check.due("place when it was sent", x.post(0, 2), 42);
        Check.days(x, 1);
        check.due("on its way still", x.post(1, 3), 0);
        x.place(5, 0, 42);
        Check.days(x, 1);
        check.due("come", x.post(0, 3), 1);
        check.due("come at first place", x.post(1, 3), 1);
        Check.days(x, 1);
        x.place(5, 0, 1);
        x.place(0, 0, 1);
        check.due("it lived there that day", x.post(0, 3), 1);
        check.due("so did the other", x.post(1, 3), 1);
        x.letter(0);
        Check.days(x, 2);
        check.due("gone to a place that is left", x.post(2, 3), 2);
        check.due("letter -1", x.post(-1, 0), Check.BAD);
        check.due("letter 3", x.post(3, 0), Check.BAD);
        check.due("what -1", x.post(0, -1), Check.BAD);
        check.due("what 4", x.post(0, 4), Check.BAD);
    }

    private static void lateLetter() {
        LetterDebts x = withDebts();
        Check.days(x, 199);
        x.letter(0);
        x.day();
        x.letter(0);
        check.due("it would come beyond 200", x.post(0, 3), 0);
        check.due("that one too", x.post(1, 3), 0);
        check.due("a move on the last day", x.place(0, 0, 9), 0);
        check.due("it lives there", x.place(0, 0, 9), 9);
        check.due("no hold", x.hold(0, 999, 1, 1), 0);
    }

    private static void lastLetter() {
        LetterDebts x = withDebts();
        Check.days(x, 198);
        x.letter(0);
        x.letter(1);
        x.day();
        x.place(5, 0, 3);
        x.day();
        check.due("come on day 200", x.post(0, 3), 1);
        check.due("gone on day 200", x.post(1, 3), 2);
    }

    private static void call() {
        LetterDebts x = new LetterDebts();
        int[][] calls = {{30, 0}, {30, 0}, {1, 1}, {60, 2}, {59, 3}, {2, 4}, {58, 4}, {1, 5}};
        for (int[] c : calls) {
            check.due("call of " + c[0], x.call(0, c[0]), c[1]);
        }
        check.due("person -1", x.call(-1, 1), Check.BAD);
        check.due("person 6", x.call(6, 1), Check.BAD);
        check.due("minutes 0", x.call(0, 0), Check.BAD);
        check.due("minutes 61", x.call(0, 61), Check.BAD);
        check.due("in the line", x.count(5), 8);
        int[] heard = {2, 1, 1, 1, 2, 1, 0};
        for (int h : heard) {
            check.due("heard", x.day(), h);
        }
        for (int i = 0; i < 40; i++) {
            check.due("one minute", x.call(i % 6, 1), 0);
        }
        check.due("full", x.call(0, 1), Check.FULL);
        check.due("bad ahead of full", x.call(0, 61), Check.BAD);
        check.due("all in a day", x.day(), 40);
        check.due("nobody", x.count(5), 0);
    }

    private static void day() {
        LetterDebts x = new LetterDebts();
        for (int d = 1; d <= 200; d++) {
            check.due("day", x.day(), 0);
            check.due("today", x.count(6), d);
        }
        x.call(0, 1);
        check.due("beyond", x.day(), Check.STATE);
        check.due("today still", x.count(6), 200);
        check.due("the line still", x.count(5), 1);
    }
}
