import java.util.Random;

/** Random runs of calls on LetterDebts and on Plain, with one answer to each. */
public final class PlainTest {
    private static final int[] ODD = {-1, Integer.MIN_VALUE, Integer.MAX_VALUE, 6, 7, 10, 11, 20, 21, 30, 61, 100, 200, 201, 1000};
    private static final String[] WORDS = {"from", "base", "free", "take", "/", ";", "0", "1", "20", "21", "99", "100",
        "999", "1000", "01", "fro", "takes", "From", "+", "\t", "\u00e9", "", " "};
    private static final Check check = new Check();

    private final Random random;
    private final int run;
    private final LetterDebts x = new LetterDebts();
    private final Plain plain = new Plain();
    private int calls = 0;

    private PlainTest(int run) {
        this.run = run;
        random = new Random(run);
    }

    public static void main(String[] args) {
        for (int run = 0; run < 600 && check.wrong() < 5; run++) {
            new PlainTest(run).go();
        }
        check.end();
    }

    private void go() {
        setUp();
        while (calls < 512 && check.wrong() < 5) {
            step();
        }
    }

    /** Some rules, firms and true pays, so that most later calls have something to answer. */
    private void setUp() {
        if (run % 10 == 0) {
            return;
        }
        text();
        for (int i = 0; i < 5; i++) {
            firms();
        }
        for (int p = 0; p < 2; p++) {
            truths(p);
        }
        for (int p = 0; p < 2 && run % 2 == 0; p++) {
            int d = 0;
            same("debt", d = x.debt(p, 2), plain.debt(p, 2));
            same("letter", x.letter(d), plain.letter(d));
        }
    }

    private int upTo(int most) {
        return random.nextInt(most + 1);
    }

    /** Mostly 0 .. most, now and then something else. */
    private int about(int most) {
        return random.nextInt(40) == 0 ? ODD[random.nextInt(ODD.length)] : upTo(most);
    }

    private int person() {
        return random.nextInt(20) == 0 ? about(6) : upTo(1);
    }

    private int someDay() {
        int today = plain.count(6);
        return random.nextInt(4) > 0 ? Math.min(200, Math.max(0, today - 2 + upTo(4))) : about(200);
    }

    private void same(String call, long got, long want) {
        calls++;
        check.due("run " + run + ", call " + calls + ": " + call, got, want);
    }

    private void step() {
        switch (random.nextInt(20)) {
            case 0: text(); break;
            case 2: case 3: told(); break;
            case 4: firms(); break;
            case 5: case 6: slips(); break;
            case 7: case 8: whatCouldBe(); break;
            case 9: case 10: debts(); break;
            case 11: letters(); break;
            case 12: line(); break;
            case 13: days(); break;
            case 14: kinds(); break;
            case 15: images(); break;
            default: debts(); days(); break;
        }
    }

    private void text() {
        if (random.nextInt(4) == 0) {
            long v = random.nextLong();
            int n = random.nextInt(4) == 0 ? about(9) : 1;
            same("type", x.type(v, n), plain.type(v, n));
            same("clear", x.clear(), plain.clear());
        }
        String s = random.nextInt(3) == 0 ? broken(wellFormed()) : wellFormed();
        for (int i = 0; i < s.length(); i += 8) {
            long v = random.nextLong();
            int n = Math.min(8, s.length() - i);
            for (int k = 0; k < n; k++) {
                v = v << 8 | s.charAt(i + k);
            }
            same("type", x.type(v, n), plain.type(v, n));
        }
        same("rules " + s, x.rules(), plain.rules());
        same("count 7", x.count(7), plain.count(7));
        if (random.nextInt(5) > 0) {
            same("clear", x.clear(), plain.clear());
        }
        for (int i = 0; i < 3; i++) {
            int pay = about(20);
            int day = someDay();
            same("due(" + pay + ", " + day + ")", x.due(pay, day), plain.due(pay, day));
        }
    }

    private String wellFormed() {
        StringBuilder s = new StringBuilder();
        int n = 1 + upTo(random.nextInt(6) == 0 ? 6 : 2);
        int day = upTo(3);
        for (int i = 0; i < n; i++) {
            String gap = " ".repeat(upTo(2));
            s.append("from ").append(day).append(gap).append("base ").append(10 + upTo(40)).append(" free ").append(upTo(12));
            s.append(" take ").append(1 + upTo(19)).append(gap).append("/").append(1 + upTo(19)).append(";").append(gap);
            day += 1 + upTo(30);
        }
        return s.toString();
    }

    private String broken(String s) {
        int at = upTo(s.length());
        int to = Math.min(s.length(), at + upTo(4));
        return s.substring(0, at) + WORDS[random.nextInt(WORDS.length)] + s.substring(to);
    }

    private void told() {
        int p = person();
        int f = about(9);
        int what = random.nextInt(4) == 0 ? about(1) : 0;
        int v = about(random.nextInt(2) == 0 ? 20 : 3);
        same("pay(" + p + ", " + f + ", " + what + ", " + v + ")", x.pay(p, f, what, v), plain.pay(p, f, what, v));
        if (random.nextInt(6) == 0) {
            truths(upTo(1));
        }
    }

    /** TRUE PAYS become a row that COULD BE. */
    private void truths(int p) {
        int[] row = plain.someRow(p, random.nextInt());
        for (int f = 0; f < 10; f++) {
            same("pay(" + p + ", " + f + ", 1, " + row[f] + ")", x.pay(p, f, 1, row[f]), plain.pay(p, f, 1, row[f]));
        }
    }

    private void firms() {
        int p = person();
        int from = about(9);
        int to = random.nextInt(8) == 0 ? about(9) : Math.min(9, from + upTo(run % 4 == 0 ? 9 : 4));
        long length = Math.max(1, (long) to - from + 1);
        int sum = (int) Math.min(300, upTo(4) == 0 ? 20 * length - upTo(10) : upTo(2) == 0 ? upTo(20 * (int) Math.min(10, length)) : upTo(9));
        sum = random.nextInt(10) == 0 ? about(200) : sum;
        if (plain.hasRoom(p, from, to, sum)) {
            same("firm(" + p + ", " + from + ", " + to + ", " + sum + ")", x.firm(p, from, to, sum), plain.firm(p, from, to, sum));
        }
    }

    private void slips() {
        int p = person();
        int f = about(9);
        int pay = random.nextInt(2) == 0 ? upTo(6) : about(20);
        if (random.nextInt(3) == 0 && p >= 0 && p < 6 && f >= 0 && f < 10) {
            // As TRUE PAY says, so that something is left to settle.
            pay = plain.pay(p, f, 1, 0);
            plain.pay(p, f, 1, pay);
        }
        same("slip(" + p + ", " + f + ", " + pay + ")", x.slip(p, f, pay), plain.slip(p, f, pay));
    }

    private void whatCouldBe() {
        int p = person();
        int d = someDay();
        String pd = "(" + p + ", " + d + ")";
        same("could" + pd, x.could(p, d), plain.could(p, d));
        same("stands" + pd, x.stands(p, d), plain.stands(p, d));
        same("tells" + pd, x.tells(p, d), plain.tells(p, d));
        for (int what = 0; what < 4; what++) {
            same("owed" + pd + what, x.owed(p, d, what), plain.owed(p, d, what));
        }
        int what = about(1);
        same("settles" + pd + what, x.settles(p, d, what), plain.settles(p, d, what));
        int f = about(9);
        same("span" + pd + f + what, x.span(p, d, f, what), plain.span(p, d, f, what));
    }

    private void debts() {
        int p = person();
        int by = about(2);
        if (random.nextInt(3) == 0) {
            same("debt(" + p + ", " + by + ")", x.debt(p, by), plain.debt(p, by));
        }
        int pay = random.nextInt(3) == 0 ? about(999) : about(40);
        int of = 1 + about(19) % 30;
        int part = random.nextInt(8) == 0 ? about(20) : 1 + upTo(Math.max(0, Math.min(19, of - 1)));
        same("hold(" + p + ", " + pay + ", " + part + ", " + of + ")", x.hold(p, pay, part, of), plain.hold(p, pay, part, of));
        int d = about(random.nextInt(20) == 0 ? plain.count(3) : Math.max(0, plain.count(3) - 1));
        if (random.nextInt(8) == 0) {
            same("set(" + d + ")", x.set(d), plain.set(d));
        }
        int what = about(6);
        same("about(" + d + ", " + what + ")", x.about(d, what), plain.about(d, what));
        for (int sum = 8; sum <= 10; sum++) {
            same("count(" + sum + ")", x.count(sum), plain.count(sum));
        }
        int day = someDay();
        same("right(" + d + ", " + day + ")", x.right(d, day), plain.right(d, day));
    }

    private void letters() {
        int p = person();
        int place = random.nextInt(10) == 0 ? about(99) : upTo(1);
        int what = about(1);
        if (random.nextInt(3) == 0) {
            same("place(" + p + ", " + what + ", " + place + ")", x.place(p, what, place), plain.place(p, what, place));
        }
        int d = about(Math.max(0, plain.count(3) - 1));
        same("letter(" + d + ")", x.letter(d), plain.letter(d));
        for (int i = 0; i < 3; i++) {
            int letter = about(Math.max(0, plain.count(4) - 1));
            int of = about(3);
            same("post(" + letter + ", " + of + ")", x.post(letter, of), plain.post(letter, of));
            same("post(" + letter + ", 3)", x.post(letter, 3), plain.post(letter, 3));
        }
    }

    private void line() {
        for (int i = upTo(3); i >= 0; i--) {
            int p = person();
            int minutes = 1 + about(59) % 100;
            same("call(" + p + ", " + minutes + ")", x.call(p, minutes), plain.call(p, minutes));
        }
        same("count 5", x.count(5), plain.count(5));
    }

    private void days() {
        for (int i = run % 7 == 0 ? upTo(30) : upTo(4); i >= 0; i--) {
            same("day", x.day(), plain.day());
        }
    }

    private void kinds() {
        int kind = about(8);
        int p = person();
        int f = about(9);
        same("weight(" + kind + ", " + p + ", " + f + ")", x.weight(kind, p, f), plain.weight(kind, p, f));
        same("trace", x.trace(), plain.trace());
    }

    private void images() {
        int image = about(1);
        if (random.nextInt(3) > 0) {
            same("keep(" + image + ")", x.keep(image), plain.keep(image));
        } else {
            same("back(" + image + ")", x.back(image), plain.back(image));
        }
        for (int i = 0; i < 4; i++) {
            int what = about(10);
            same("count(" + what + ")", x.count(what), plain.count(what));
        }
    }
}
