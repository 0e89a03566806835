/** PLACES, LETTERS, the line and days, at each limit that the document tells (promises 20 to 24). */
public final class LettersEdgesTest {
    private static final Check check = new Check();

    public static void main(String[] args) {
        placesAtLimits();
        placesByDays();
        thirtyLetters();
        twoDays();
        livedOnTheDay();
        leftOnTheDay();
        movesOnTheDayItself();
        neverThere();
        whatTheOfficeKnew();
        knownInNoImage();
        livedInNoImage();
        lastDays();
        oneLetterOfSeveral();
        fortyCalls();
        sixtyMinutes();
        waits();
        waitsAreAsTold();
        twoHundredDays();
        daysHearOnceEach();
        check.end();
    }

    /** Persons 0 and 5 with a debt each. */
    private static LetterDebts withDebts() {
        LetterDebts x = Check.with("from 0 base 99 free 0 take 1/1;");
        x.firm(0, 0, 0, 20);
        x.firm(5, 0, 0, 20);
        x.debt(0, 0);
        x.debt(5, 0);
        return x;
    }

    private static void placesAtLimits() {
        LetterDebts x = new LetterDebts();
        for (int p = 0; p < 6; p++) {
            for (int what = 0; what < 2; what++) {
                int was = 0;
                for (int place : new int[] {99, 98, 1, 0, 50 + p + 6 * what}) {
                    check.due("place " + place, x.place(p, what, place), was);
                    was = place;
                }
                check.due("place 100", x.place(p, what, 100), Check.BAD);
                check.due("place -1", x.place(p, what, -1), Check.BAD);
            }
        }
        for (int p = 0; p < 6; p++) {
            check.due("lives of " + p, x.place(p, 0, 0), 50 + p);
            check.due("known of " + p, x.place(p, 1, 0), 56 + p);
        }
    }

    private static void placesByDays() {
        LetterDebts x = new LetterDebts();
        check.due("on day 0", x.place(2, 0, 10), 0);
        for (int d = 1; d <= 200; d++) {
            x.day();
            if (d == 1 || d == 2 || d == 199 || d == 200) {
                check.due("on day " + d, x.place(2, 0, 10 + d % 7), 10 + (d == 1 ? 0 : d == 2 ? 1 : d == 199 ? 2 : 199 % 7));
            }
        }
        check.due("the last", x.place(2, 0, 0), 10 + 200 % 7);
        check.due("the office was told nothing", x.place(2, 1, 0), 0);
    }

    private static void thirtyLetters() {
        LetterDebts x = withDebts();
        x.keep(0);
        for (int i = 0; i < 30; i++) {
            check.due("letter " + i, x.letter(i % 2), i);
            check.due("so many", x.count(4), i + 1);
            check.due("its debt", x.post(i, 0), i % 2);
        }
        check.due("a 31st", x.letter(0), Check.FULL);
        check.due("there is none", x.post(30, 0), Check.BAD);
        check.due("thirty", x.count(4), 30);
        x.back(0);
        check.due("from the first on again", x.letter(1), 0);
        check.due("no second so far", x.post(1, 0), Check.BAD);
    }

    private static void twoDays() {
        LetterDebts x = withDebts();
        x.place(5, 0, 9);
        x.letter(0);
        x.letter(1);
        int[][] want = {{0, 0}, {0, 0}, {1, 2}, {1, 2}, {1, 2}};
        for (int d = 0; d < want.length; d++) {
            check.due("to its place, day " + d, x.post(0, 3), want[d][0]);
            check.due("to another place, day " + d, x.post(1, 3), want[d][1]);
            check.due("sent on", x.post(0, 1), 0);
            x.day();
        }
    }

    /** It moves to the letter's place on the day that it is sent, a day later, when it comes, and a day too late. */
    private static void livedOnTheDay() {
        for (int move = 0; move <= 3; move++) {
            LetterDebts x = withDebts();
            x.place(0, 0, 4);
            x.place(0, 1, 7);
            x.letter(0);
            for (int d = 0; d < 4; d++) {
                if (d == move) {
                    x.place(0, 0, 7);
                }
                x.day();
            }
            check.due("moved there on day " + move, x.post(0, 3), move <= 2 ? 1 : 2);
        }
    }

    /** It leaves the letter's place on the day that it is sent, a day later, when it comes, and a day after. */
    private static void leftOnTheDay() {
        for (int move = 0; move <= 3; move++) {
            LetterDebts x = withDebts();
            x.letter(0);
            for (int d = 0; d < 4; d++) {
                if (d == move) {
                    x.place(0, 0, 7);
                }
                x.day();
            }
            check.due("left on day " + move, x.post(0, 3), move <= 2 ? 2 : 1);
        }
    }

    /** A PERSON lives at one place a day: the last that was told for it. */
    private static void movesOnTheDayItself() {
        LetterDebts x = withDebts();
        x.letter(0);
        Check.days(x, 2);
        check.due("come", x.post(0, 3), 1);
        x.place(0, 0, 7);
        check.due("not if it lives elsewhere that day", x.post(0, 3), 2);
        x.place(0, 0, 0);
        check.due("and back", x.post(0, 3), 1);
        x.day();
        x.place(0, 0, 7);
        check.due("a day later it makes no difference", x.post(0, 3), 1);
    }

    private static void neverThere() {
        LetterDebts x = withDebts();
        x.place(0, 1, 99);
        x.letter(0);
        Check.days(x, 20);
        check.due("gone", x.post(0, 3), 2);
        check.due("to", x.post(0, 2), 99);
        check.due("no hold", x.hold(0, 999, 1, 1), 0);
    }

    private static void whatTheOfficeKnew() {
        LetterDebts x = withDebts();
        x.letter(0);
        x.place(0, 1, 3);
        x.letter(0);
        x.day();
        x.letter(0);
        x.place(0, 1, 4);
        x.letter(0);
        x.place(5, 1, 5);
        int[] want = {0, 3, 3, 4};
        for (int i = 0; i < want.length; i++) {
            check.due("place of letter " + i, x.post(i, 2), want[i]);
            check.due("day of letter " + i, x.post(i, 1), i / 2);
        }
    }

    /** What the OFFICE knows is told by days: an image brings TODAY back, not what was told for later days. */
    private static void knownInNoImage() {
        LetterDebts x = withDebts();
        x.keep(0);
        Check.days(x, 5);
        x.place(0, 1, 8);
        x.letter(0);
        x.back(0);
        check.due("sent on day 0", x.letter(0), 0);
        check.due("to what was known then", x.post(0, 2), 0);
        Check.days(x, 4);
        x.letter(0);
        check.due("to what was known on day 4", x.post(1, 2), 0);
        x.day();
        x.letter(0);
        check.due("to what it was told for day 5", x.post(2, 2), 8);
    }

    /** Where a PERSON LIVED on a day stays, whatever image is brought back. */
    private static void livedInNoImage() {
        LetterDebts x = withDebts();
        x.letter(0);
        x.day();
        x.keep(1);
        x.day();
        x.place(0, 0, 7);
        check.due("gone on day 2", x.post(0, 3), 2);
        x.back(1);
        check.due("on its way on day 1", x.post(0, 3), 0);
        x.day();
        check.due("gone on day 2 again", x.post(0, 3), 2);
        x.back(1);
        check.due("it lives there on day 1", x.place(0, 0, 0), 0);
        x.day();
        check.due("from day 1 on it stays there", x.post(0, 3), 1);
        Check.days(x, 7);
        check.due("and may be held on day 9", x.hold(0, 5, 1, 1), 5);
    }

    /** Sent on day 198 it comes on the last day; later ones stay on their way. */
    private static void lastDays() {
        for (int sent = 197; sent <= 200; sent++) {
            LetterDebts x = withDebts();
            x.place(5, 0, 1);
            Check.days(x, sent);
            x.letter(0);
            x.letter(1);
            Check.days(x, 200 - sent);
            check.due("come, sent on " + sent, x.post(0, 3), sent <= 198 ? 1 : 0);
            check.due("gone, sent on " + sent, x.post(1, 3), sent <= 198 ? 2 : 0);
            check.due("no day more", x.day(), Check.STATE);
            check.due("as it was", x.post(0, 3), sent <= 198 ? 1 : 0);
        }
    }

    /** One that has come 7 days ago is enough, among others that are gone or too late. */
    private static void oneLetterOfSeveral() {
        LetterDebts x = withDebts();
        x.place(0, 1, 7);
        x.letter(0);
        x.place(0, 1, 0);
        x.day();
        x.letter(0);
        x.day();
        x.letter(0);
        Check.days(x, 7);
        check.due("day 9: that of day 0 is gone", x.hold(0, 5, 1, 1), 0);
        x.day();
        check.due("day 10: that of day 1 came 7 days ago", x.hold(0, 5, 1, 1), 5);
        x.day();
        x.place(0, 0, 60);
        x.letter(0);
        Check.days(x, 20);
        check.due("one that went elsewhere takes nothing away", x.hold(0, 5, 1, 1), 5);
    }

    private static void fortyCalls() {
        LetterDebts x = new LetterDebts();
        for (int i = 0; i < 40; i++) {
            check.due("call " + i, x.call(i % 6, 60), i);
            check.due("in the line", x.count(5), i + 1);
        }
        check.due("a 41st", x.call(0, 1), Check.FULL);
        check.due("forty", x.count(5), 40);
        check.due("one is heard", x.day(), 1);
        check.due("39", x.count(5), 39);
        check.due("room for one", x.call(0, 60), 39);
        check.due("and no more", x.call(0, 60), Check.FULL);
        for (int i = 0; i < 40; i++) {
            check.due("one a day", x.day(), 1);
        }
        check.due("nobody", x.day(), 0);
        check.due("an empty line", x.count(5), 0);
    }

    /** 59, 60 and 61 minutes together. */
    private static void sixtyMinutes() {
        int[][] second = {{29, 0, 2}, {30, 0, 2}, {31, 1, 1}, {60, 1, 1}};
        for (int[] s : second) {
            LetterDebts x = new LetterDebts();
            check.due("30 minutes", x.call(0, 30), 0);
            check.due("and " + s[0], x.call(1, s[0]), s[1]);
            check.due("heard", x.day(), s[2]);
            check.due("the rest", x.day(), 2 - s[2]);
        }
        LetterDebts x = new LetterDebts();
        check.due("60 alone", x.call(0, 60), 0);
        check.due("and 1", x.call(0, 1), 1);
        check.due("heard", x.day(), 1);
        LetterDebts y = new LetterDebts();
        check.due("1 alone", y.call(0, 1), 0);
        check.due("and 60", y.call(0, 60), 1);
        check.due("and 1 that would fit the day ahead", y.call(0, 1), 2);
        check.due("no one is passed by", y.day(), 1);
        check.due("60", y.day(), 1);
        check.due("1", y.day(), 1);
    }

    private static void waits() {
        LetterDebts x = new LetterDebts();
        int[][] calls = {{20, 0}, {20, 0}, {20, 0}, {20, 1}, {41, 2}, {19, 2}, {1, 3}, {59, 3}, {1, 4}};
        for (int[] c : calls) {
            check.due("a call of " + c[0], x.call(0, c[0]), c[1]);
        }
        int[] heard = {3, 1, 2, 2, 1, 0};
        for (int h : heard) {
            check.due("heard", x.day(), h);
        }
    }

    /** One that waits d days is heard on the day d days later. */
    private static void waitsAreAsTold() {
        for (int minutes = 1; minutes <= 60; minutes++) {
            LetterDebts x = new LetterDebts();
            int[] heardOn = new int[41];
            for (int i = 0; i < 40; i++) {
                heardOn[x.call(0, 1 + (i * 7 + minutes) % 60)]++;
            }
            for (int d = 0; d < 41; d++) {
                check.due("heard after " + d + " days", x.day(), heardOn[d]);
            }
        }
    }

    private static void twoHundredDays() {
        LetterDebts x = new LetterDebts();
        check.due("today at first", x.count(6), 0);
        Check.days(x, 198);
        x.call(0, 60);
        x.call(0, 60);
        x.call(0, 60);
        check.due("to 199", x.day(), 1);
        check.due("to 200", x.day(), 1);
        check.due("today", x.count(6), 200);
        check.due("beyond", x.day(), Check.STATE);
        check.due("beyond again", x.day(), Check.STATE);
        check.due("today still", x.count(6), 200);
        check.due("the line still", x.count(5), 1);
        check.due("calls still come", x.call(0, 60), 1);
        x.keep(0);
        check.due("back on day 200", x.back(0), 200);
        check.due("beyond still", x.day(), Check.STATE);
    }

    private static void daysHearOnceEach() {
        LetterDebts x = new LetterDebts();
        check.due("nobody", x.day(), 0);
        x.call(3, 10);
        check.due("one", x.day(), 1);
        check.due("not again", x.day(), 0);
        check.due("today", x.count(6), 3);
    }
}
