import java.util.function.ToIntFunction;

/** Calls that are refused by STATE or FULL, and which of several is answered: nothing changes by them. */
public final class RefusedTest {
    private static final Check check = new Check();
    private static final Unchanged fresh = new Unchanged(check, "fresh", Scenes::fresh);
    private static final Unchanged busy = new Unchanged(check, "busy", Scenes::busy);
    private static final Unchanged full = new Unchanged(check, "full", Scenes::full);
    private static final Unchanged lastDay = new Unchanged(check, "last day", Scenes::lastDay);

    public static void main(String[] args) {
        stateOfNew();
        stateOfFirms();
        stateOfSlips();
        stateOfSpans();
        stateOfDebts();
        stateOfDays();
        fullUp();
        badFirst();
        stateAheadOfFull();
        faults();
        answersThatChangeNothing();
        check.end();
    }

    private static void stateOfNew() {
        fresh.refused("slip, no span", x -> x.slip(0, 0, 0), Check.STATE);
        fresh.refused("span, no span", x -> x.span(0, 0, 0, 0), Check.STATE);
        for (int by = 0; by < 3; by++) {
            int how = by;
            fresh.refused("debt of nothing by " + by, x -> x.debt(0, how), Check.STATE);
        }
        fresh.refused("back 0, none kept", x -> x.back(0), Check.STATE);
        fresh.refused("back 1, none kept", x -> x.back(1), Check.STATE);
    }

    /** Person 1 has the span 3 .. 7. */
    private static void stateOfFirms() {
        int[][] over = {{3, 7}, {0, 3}, {0, 9}, {7, 7}, {7, 9}, {3, 3}, {5, 5}, {2, 3}, {7, 8}, {2, 8}};
        for (int[] s : over) {
            busy.refused("firm over " + s[0] + ".." + s[1], x -> x.firm(1, s[0], s[1], 1), Check.STATE);
        }
        check.due("ends ahead of it", busy.made().firm(1, 0, 2, 1), 2);
        check.due("begins behind it", busy.made().firm(1, 8, 9, 1), 2);
        check.due("ends one ahead", busy.made().firm(1, 1, 1, 1), 2);
    }

    /** Person 0 has 31 in 0 .. 2, of them 11 shown in 1, and 9 in 5 .. 6; person 1 60 in 3 .. 7. */
    private static void stateOfSlips() {
        busy.refused("ahead of the span", x -> x.slip(1, 2, 12), Check.STATE);
        busy.refused("behind the span", x -> x.slip(1, 8, 12), Check.STATE);
        busy.refused("between spans", x -> x.slip(0, 3, 0), Check.STATE);
        busy.refused("of another person", x -> x.slip(2, 3, 12), Check.STATE);
        busy.refused("it has one, the same", x -> x.slip(0, 1, 11), Check.STATE);
        busy.refused("it has one, another", x -> x.slip(0, 1, 10), Check.STATE);
        busy.refused("above the sum", x -> x.slip(0, 5, 10), Check.STATE);
        check.due("the sum itself", busy.made().slip(0, 5, 9), 21);
        check.due("inside the sum", busy.made().slip(0, 5, 8), 21);
        LetterDebts x = busy.made();
        check.due("the first span's, one of two", x.slip(0, 0, 0), 10);
        check.due("not what is left, below", x.slip(0, 2, 19), Check.STATE);
        check.due("what is left", x.slip(0, 2, 20), 10);
    }

    private static void stateOfSpans() {
        busy.refused("span, ahead of it", x -> x.span(1, 200, 2, 0), Check.STATE);
        busy.refused("span, behind it", x -> x.span(1, 200, 8, 1), Check.STATE);
        busy.refused("span, as of a day ahead of the firm", x -> x.span(0, 1, 5, 0), Check.STATE);
        check.due("as of the firm's day", busy.made().span(0, 2, 5, 0), 0);
        check.due("its first", busy.made().span(1, 1, 3, 1), 20);
        check.due("its last", busy.made().span(1, 1, 7, 1), 20);
    }

    private static void stateOfDebts() {
        busy.refused("nothing owed", x -> x.debt(3, 2), Check.STATE);
        busy.refused("set already", x -> x.set(2), Check.STATE);
        busy.refused("back of the one that was not kept", x -> x.back(0), Check.STATE);
        Unchanged doubtful = new Unchanged(check, "doubtful", RefusedTest::leastIsNothing);
        doubtful.refused("least is 0", x -> x.debt(0, 1), Check.STATE);
        doubtful.refused("average is 0", x -> x.debt(0, 0), Check.STATE);
        check.due("most is 1", doubtful.made().owed(0, 0, 2), 1);
        check.due("a debt of 1", doubtful.made().debt(0, 2), 0);
    }

    /** OWED is 1 if one fortnight has all 6, else 0. */
    private static void leastIsNothing(LetterDebts x) {
        Check.ruled(x, "from 0 base 9 free 5 take 1/1;");
        x.firm(0, 0, 1, 6);
    }

    private static void stateOfDays() {
        lastDay.refused("a day beyond 200", LetterDebts::day, Check.STATE);
    }

    private static void fullUp() {
        for (int n = 1; n <= 8; n++) {
            int bytes = n;
            full.refused(n + " bytes more", x -> x.type(0x2020202020202020L, bytes), Check.FULL);
        }
        full.refused("a 4th firm", x -> x.firm(0, 9, 9, 3), Check.FULL);
        for (int by = 0; by < 3; by++) {
            int how = by;
            full.refused("a 21st debt by " + by, x -> x.debt(0, how), Check.FULL);
        }
        full.refused("a 31st letter", x -> x.letter(19), Check.FULL);
        full.refused("a 41st call", x -> x.call(0, 1), Check.FULL);
        check.due("another person's firm", full.made().firm(1, 9, 9, 3), 1);
    }

    private static void badFirst() {
        bad("type 9 at 300 bytes", full, x -> x.type(0, 9));
        bad("type 0 at 300 bytes", full, x -> x.type(0, 0));
        bad("firm's sum, over a span, full", full, x -> x.firm(0, 0, 0, 21));
        bad("firm's end ahead, full", full, x -> x.firm(0, 9, 8, 0));
        bad("firm of no person, full", full, x -> x.firm(6, 0, 0, 0));
        bad("slip's pay, no span", full, x -> x.slip(0, 9, 21));
        bad("slip's pay, it has one", busy, x -> x.slip(0, 1, 21));
        bad("slip's fortnight", full, x -> x.slip(0, 10, 0));
        bad("span's what, no span", full, x -> x.span(0, 0, 9, 2));
        bad("span's day, no span", full, x -> x.span(0, 201, 9, 0));
        bad("debt's by, nothing owed, full", full, x -> x.debt(1, 3));
        bad("debt's by, full", full, x -> x.debt(0, 3));
        bad("debt's person, full", full, x -> x.debt(6, 0));
        bad("letter's debt, full", full, x -> x.letter(20));
        bad("call's minutes, full", full, x -> x.call(0, 61));
        bad("call's person, full", full, x -> x.call(6, 1));
        bad("image 2, none kept", fresh, x -> x.back(2));
        bad("image -1, none kept", fresh, x -> x.back(-1));
    }

    private static void bad(String what, Unchanged scene, ToIntFunction<LetterDebts> call) {
        scene.refused(what, call, Check.BAD);
    }

    private static void stateAheadOfFull() {
        full.refused("a 4th firm over a span", x -> x.firm(0, 4, 9, 3), Check.STATE);
        full.refused("a 21st debt of nothing", x -> x.debt(1, 0), Check.STATE);
    }

    private static void faults() {
        // The text is "from 3 base".
        busy.refused("rules that end too early", LetterDebts::rules, -10 - 11);
        Unchanged wrong = new Unchanged(check, "wrong text", x -> {
            Scenes.busy(x);
            x.clear();
            Check.typed(x, "from 0 base 1 free 0 take 1/1; from 0 base 2 free 0 take 1/1;");
        });
        wrong.refused("a day that is not behind the one ahead", LetterDebts::rules, -10 - 36);
    }

    /** NONE is an answer, and questions change nothing either. */
    private static void answersThatChangeNothing() {
        fresh.refused("tells, no span", x -> x.tells(0, 0), Check.NONE);
        full.refused("settles, true pays can't be", x -> x.settles(0, 0, 0), Check.NONE);
        full.refused("settles, the set", x -> x.settles(0, 0, 1), Check.NONE);
        busy.refused("settles", x -> x.settles(0, 11, 1), 1 << 0 | 1 << 5);
        busy.refused("tells", x -> x.tells(1, 11), 3);
        busy.refused("hold of a pay of nothing", x -> x.hold(0, 0, 1, 1), 0);
        busy.refused("hold of a share of nothing", x -> x.hold(0, 19, 1, 20), 0);
        busy.refused("hold of one without debts", x -> x.hold(5, 999, 1, 1), 0);
    }
}
