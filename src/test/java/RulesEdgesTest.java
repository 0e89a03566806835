import java.util.function.IntFunction;

/** THE TEXT, THE RULES and DUE, at each limit that the document tells (promises 2 to 5). */
public final class RulesEdgesTest {
    private static final Check check = new Check();

    public static void main(String[] args) {
        threeHundredBytes();
        bytesOfANumber();
        clearAtLimits();
        numbersAtLimits();
        zerosAhead();
        numbersThatWrap();
        daysInOrder();
        sixRules();
        everyByteFirst();
        everyByteInside();
        blanks();
        words();
        everyBeginning();
        endsAtTheLastByte();
        bytesThatWereCleared();
        refusedRules();
        emptyRules();
        longestRules();
        dueAtItsDay();
        dueAtFree();
        dueDownToNothing();
        dueAtExtremes();
        check.end();
    }

    private static void fault(String text, int place) {
        check.due("rules of '" + text + "'", Check.ruled(new LetterDebts(), text), -10 - place);
    }

    private static void taken(String text, int rules) {
        check.due("rules of '" + text + "'", Check.ruled(new LetterDebts(), text), rules);
    }

    /** For each number of bytes: 299, 300 and 301 in all. */
    private static void threeHundredBytes() {
        for (int n = 1; n <= 8; n++) {
            for (int all = 299; all <= 301; all++) {
                LetterDebts x = new LetterDebts();
                Check.typed(x, " ".repeat(all - n));
                check.due(n + " bytes to " + all, x.type(0x2020202020202020L, n), all > 300 ? Check.FULL : all);
                check.due("so many then", x.count(7), all > 300 ? all - n : all);
            }
        }
        LetterDebts x = new LetterDebts();
        Check.typed(x, " ".repeat(295));
        check.due("8 to 303", x.type(0x2020202020202020L, 8), Check.FULL);
        check.due("5 to 300 still", x.type(0x2020202020L, 5), 300);
        check.due("1 to 301", x.type(32, 1), Check.FULL);
    }

    /** Of a long the lowest n bytes, the highest of them first, whatever stands above them and whatever its sign. */
    private static void bytesOfANumber() {
        String rule = "from 7 base 9 free 0 take 1/1;";
        for (int n = 1; n <= 8; n++) {
            LetterDebts x = new LetterDebts();
            for (int i = 0; i < rule.length(); i += n) {
                long v = -1;
                int some = Math.min(n, rule.length() - i);
                for (int k = 0; k < some; k++) {
                    v = v << 8 | rule.charAt(i + k);
                }
                check.due("by " + n, x.type(v, some), i + some);
            }
            check.due("rules by " + n, x.rules(), 1);
            check.due("day by " + n, x.due(0, 6), 0);
            check.due("due by " + n, x.due(0, 7), 9);
        }
        LetterDebts x = new LetterDebts();
        check.due("eight bytes 255", x.type(-1L, 8), 8);
        check.due("a sign at byte 0", x.rules(), -10);
        x.clear();
        check.due("the least long", x.type(Long.MIN_VALUE, 8), 8);
        check.due("its first byte is 128", x.rules(), -10);
        x.clear();
        check.due("a blank, then the sign", x.type(0x2080L, 2), 2);
        check.due("its second byte is 128", x.rules(), -11);
        x.clear();
        check.due("zeros are bytes", x.type(32, 8), 8);
        check.due("a zero begins no token", x.rules(), -10);
    }

    private static void clearAtLimits() {
        LetterDebts x = new LetterDebts();
        check.due("clear of nothing", x.clear(), 0);
        x.type('f', 1);
        check.due("clear of one", x.clear(), 1);
        Check.typed(x, "z".repeat(300));
        check.due("full", x.type('z', 1), Check.FULL);
        check.due("clear of 300", x.clear(), 300);
        check.due("nothing is left", x.count(7), 0);
        check.due("no fault is left", x.rules(), 0);
        check.due("there is room again", x.type('z', 1), 1);
    }

    private static void numbersAtLimits() {
        number("day", 0, 200, 5, v -> "from " + v + " base 9 free 0 take 1/1;");
        number("base", 0, 99, 12, v -> "from 0 base " + v + " free 0 take 1/1;");
        number("free", 0, 99, 19, v -> "from 0 base 9 free " + v + " take 1/1;");
        number("take", 1, 20, 26, v -> "from 0 base 9 free 0 take " + v + "/1;");
        number("by", 1, 20, 28, v -> "from 0 base 9 free 0 take 1/" + v + ";");
    }

    private static void number(String what, int low, int high, int place, IntFunction<String> text) {
        for (int v : new int[] {low, low + 1, high - 1, high}) {
            taken(text.apply(v), 1);
        }
        if (low > 0) {
            fault(text.apply(low - 1), place);
        }
        for (int v : new int[] {high + 1, 998, 999, 1000, 1001, 9999, 65536, Integer.MAX_VALUE}) {
            fault(text.apply(v), place);
        }
        fault(text.apply(-1), place);
    }

    private static void zerosAhead() {
        taken("from 0 base 0 free 0 take 1/1;", 1);
        taken("from 100 base 10 free 10 take 10/10;", 1);
        String[] wrong = {"00", "01", "010", "000", "0000", "0999"};
        for (String n : wrong) {
            fault("from " + n + " base 9 free 0 take 1/1;", 5);
            fault("from 0 base " + n + " free 0 take 1/1;", 12);
            fault("from 0 base 9 free " + n + " take 1/1;", 19);
            fault("from 0 base 9 free 0 take " + n + "/1;", 26);
            fault("from 0 base 9 free 0 take 1/" + n + ";", 28);
        }
        fault("from 0 0 base", 7);
    }

    /** What would be 1, if higher bits or digits were dropped. */
    private static void numbersThatWrap() {
        String[] wrong = {"1001", "257", "65537", "4294967297", "18446744073709551617", "1" + "0".repeat(39) + "1",
            "340282366920938463463374607431768211457"};
        for (String n : wrong) {
            fault("from " + n + " base 9 free 0 take 1/1;", 5);
            fault("from 0 base " + n + " free 0 take 1/1;", 12);
            fault("from 0 base 9 free " + n + " take 1/1;", 19);
            fault("from 0 base 9 free 0 take " + n + "/1;", 26);
            fault("from 0 base 9 free 0 take 1/" + n + ";", 28);
        }
        fault("9".repeat(300), 0);
        fault("from " + "9".repeat(295), 5);
    }

    private static void daysInOrder() {
        String first = "from 7 base 9 free 0 take 1/1;";
        String rest = " base 9 free 0 take 1/1;";
        taken(first + "from 8" + rest, 2);
        taken(first + "from 9" + rest, 2);
        taken(first + "from 200" + rest, 2);
        fault(first + "from 7" + rest, 35);
        fault(first + "from 6" + rest, 35);
        fault(first + "from 0" + rest, 35);
        fault(first + "from 201" + rest, 35);
        taken("from 199" + rest + "from 200" + rest, 2);
        fault("from 200" + rest + "from 200" + rest, 37);
        fault("from 200" + rest + "from 201" + rest, 37);
        // Behind the one just ahead, not only behind the first.
        fault(first + "from 20" + rest + "from 8" + rest, 66);
        taken(first + "from 20" + rest + "from 21" + rest, 3);
    }

    private static void sixRules() {
        for (int n = 0; n <= 6; n++) {
            LetterDebts x = new LetterDebts();
            check.due(n + " rules", Check.ruled(x, Scenes.rules(n)), n);
            check.due("count of " + n, x.count(0), n);
            check.due("the last of " + n, x.due(0, 200), n == 0 ? 0 : 39 + n);
        }
        int end = Scenes.rules(6).length();
        fault(Scenes.rules(7), end);
        taken(Scenes.rules(6) + "   ", 6);
        fault(Scenes.rules(6) + "from", end);
        fault(Scenes.rules(6) + " from", end + 1);
        fault(Scenes.rules(6) + ";", end);
        fault(Scenes.rules(6) + "  7", end + 2);
        fault(Scenes.rules(6) + "\0", end);
        fault(Scenes.rules(5) + "from 4", Scenes.rules(5).length() + 5);
    }

    /** A byte alone: a blank is no token, all others can't stand first, "f" being no word. */
    private static void everyByteFirst() {
        for (int b = 0; b < 256; b++) {
            LetterDebts x = new LetterDebts();
            x.type(b, 1);
            check.due("byte " + b + " alone", x.rules(), b == 32 ? 0 : -10);
        }
    }

    /** A byte behind "from": a letter makes it another word, a digit is the day, all else can't stand there. */
    private static void everyByteInside() {
        for (int b = 0; b < 256; b++) {
            LetterDebts x = new LetterDebts();
            Check.typed(x, "from");
            x.type(b, 1);
            Check.typed(x, " base 9 free 0 take 1/1;");
            boolean letter = b >= 'a' && b <= 'z' || b >= 'A' && b <= 'Z';
            boolean digit = b >= '0' && b <= '9';
            int want = digit ? 1 : letter ? -10 : b == 32 ? -16 : -14;
            check.due("byte " + b + " behind from", x.rules(), want);
        }
        for (int b = 0; b < 256; b++) {
            LetterDebts x = new LetterDebts();
            Check.typed(x, "from 1");
            x.type(b, 1);
            Check.typed(x, " base 9 free 0 take 1/1;");
            boolean digit = b >= '0' && b <= '9';
            check.due("byte " + b + " behind a day", x.rules(), digit || b == 32 ? 1 : -16);
        }
        for (int b = 0; b < 256; b++) {
            LetterDebts x = new LetterDebts();
            Check.typed(x, "from 1 base 9 free 0 take 1/1;");
            x.type(b, 1);
            check.due("byte " + b + " behind a rule", x.rules(), b == 32 ? 1 : -40);
        }
    }

    private static void blanks() {
        taken("", 0);
        taken(" ", 0);
        taken(" ".repeat(299), 0);
        taken(" ".repeat(300), 0);
        String rule = "from 0 base 9 free 0 take 1/1;";
        taken(" ".repeat(300 - rule.length()) + rule, 1);
        taken(rule + " ".repeat(300 - rule.length()), 1);
        taken("from   0   base   9   free   0   take   1   /   1   ;", 1);
        taken("from0base9free0take1/1;", 1);
        fault("fr om 0", 0);
        fault("from 0 ba se 9", 7);
        fault("from 1 0 base", 7);
        fault("from 0 base 9 free 0 take 1/1 1;", 30);
        fault("from\n0", 4);
        fault("from\u00a00", 4);
        fault("from\0000", 4);
    }

    /** Words that are none, ones that are but can't stand there, and too short or too long ones. */
    private static void words() {
        String[] words = {"from", "base", "free", "take"};
        int[] places = {0, 7, 14, 21};
        for (int i = 0; i < words.length; i++) {
            String[] wrong = {words[i].substring(0, 3), words[i] + "s", words[i].toUpperCase(), words[i] + words[i],
                words[(i + 1) % 4], words[(i + 3) % 4], "x", "/", ";", "0", "7"};
            for (String w : wrong) {
                String text = "from 0 base 9 free 0 take 1/1;";
                String changed = text.substring(0, places[i]) + w + text.substring(places[i] + 4);
                fault(changed, places[i]);
            }
        }
        fault("from 0 base 9 free 0 take 1;1;", 27);
        fault("from 0 base 9 free 0 take 1 1;", 28);
        fault("from 0 base 9 free 0 take 1/1/", 29);
        fault("from 0 base 9 free 0 take /1;", 26);
        fault("from 0 base 9 free 0 take 1/;", 28);
        // The first fault counts, whatever comes later.
        fault("from 0 base 100 free 0 take 0/0; x", 12);
        fault("from 0 take 9 \u00ff", 7);
    }

    /** Each beginning of a text: its length, if it stops behind a token; else the place of the word that is cut. */
    private static void everyBeginning() {
        String text = " from 10 base 20 free 5 take 2/13; ";
        // Where a word is cut the fault is its first byte.
        int[] cut = {1, 9, 17, 24};
        for (int n = 0; n <= text.length(); n++) {
            int want = n;
            for (int c : cut) {
                if (n > c && n < c + 4) {
                    want = c;
                }
            }
            boolean whole = n <= 1 || n >= text.indexOf(';') + 1;
            int rules = n <= 1 ? 0 : 1;
            check.due("the first " + n, Check.ruled(new LetterDebts(), text.substring(0, n)), whole ? rules : -10 - want);
        }
        fault("from 10 base 20 free 5 take 2/13   ", 35);
        fault("from 1 base 2 free 0 take 1/1; from 2 base 3 free", 49);
    }

    /** A token that the 300th byte ends. */
    private static void endsAtTheLastByte() {
        fault("z".repeat(300), 0);
        fault(" ".repeat(296) + "from", 300);
        fault(" ".repeat(295) + "from ", 300);
        fault(" ".repeat(297) + "fro", 297);
        fault(" ".repeat(299) + "7", 299);
        fault(" ".repeat(295) + "from7", 300);
        fault(" ".repeat(271) + "from 0 base 9 free 0 take 1/1", 300);
        taken(" ".repeat(270) + "from 0 base 9 free 0 take 1/1;", 1);
    }

    /** Bytes that were cleared, or became rules, are no part of a shorter text. */
    private static void bytesThatWereCleared() {
        LetterDebts x = new LetterDebts();
        Check.typed(x, "fromage");
        x.clear();
        Check.typed(x, "from");
        check.due("a word", x.rules(), -14);
        x.clear();
        Check.typed(x, "from 2999");
        x.clear();
        Check.typed(x, "from 2");
        check.due("a number", x.rules(), -16);
        x.clear();
        Check.typed(x, Scenes.rules(3));
        check.due("three rules", x.rules(), 3);
        check.due("a blank, then nothing of them", x.type(32, 1), 1);
        check.due("no rules", x.rules(), 0);
    }

    /** A fault changes neither THE TEXT nor THE RULES; taking them empties the text and replaces all. */
    private static void refusedRules() {
        LetterDebts x = Check.with(Scenes.rules(3));
        Check.typed(x, "from 0 base 77 free 0 take 1/1; from 1 base 78 free 0 take 1/1; from 1");
        check.due("a fault late in the text", x.rules(), -10 - 69);
        check.due("three rules still", x.count(0), 3);
        check.due("the first still", x.due(0, 0), 40);
        check.due("the third still", x.due(0, 2), 42);
        check.due("the text still", x.count(7), 70);
        x.type('7', 1);
        check.due("goes on where it was", x.rules(), -10 - 71);
        Check.typed(x, " base 79 free 0 take 1/1;");
        check.due("three others", x.rules(), 3);
        check.due("the text is empty", x.count(7), 0);
        check.due("the new first", x.due(0, 0), 77);
        check.due("the new last", x.due(0, 17), 79);
        check.due("ahead of it", x.due(0, 16), 78);
        check.due("fewer rules", Check.ruled(x, "from 5 base 3 free 0 take 1/1;"), 1);
        check.due("none ahead of day 5", x.due(0, 4), 0);
        check.due("no old rule is left", x.due(0, 17), 3);
    }

    /** An empty text is no rule at all, and THE RULES are none then. */
    private static void emptyRules() {
        LetterDebts x = Check.with(Scenes.rules(6));
        check.due("six", x.due(0, 200), 45);
        check.due("none", x.rules(), 0);
        check.due("no rule", x.count(0), 0);
        check.due("nothing due", x.due(0, 200), 0);
        check.due("none again", x.rules(), 0);
    }

    /** Six rules, each as long as it may be, within 300 bytes. */
    private static void longestRules() {
        StringBuilder s = new StringBuilder();
        for (int i = 0; i < 6; i++) {
            s.append("from ").append(195 + i).append(" base 99 free 99 take 20 / 20 ; ");
        }
        while (s.length() < 300) {
            s.append(' ');
        }
        taken(s.toString(), 6);
    }

    private static void dueAtItsDay() {
        LetterDebts x = Check.with("from 3 base 10 free 0 take 1/1; from 4 base 20 free 0 take 1/1; from 200 base 30 free 0 take 1/1;");
        int[][] days = {{0, 0}, {2, 0}, {3, 10}, {4, 20}, {5, 20}, {198, 20}, {199, 20}, {200, 30}};
        for (int[] d : days) {
            check.due("due on day " + d[0], x.due(0, d[0]), d[1]);
        }
        LetterDebts none = new LetterDebts();
        check.due("no rules, day 0", none.due(0, 0), 0);
        check.due("no rules, day 200", none.due(20, 200), 0);
    }

    private static void dueAtFree() {
        LetterDebts x = Check.with("from 0 base 50 free 10 take 3/2; from 1 base 50 free 20 take 20/1; from 2 base 50 free 19 take 20/1;"
            + "from 3 base 50 free 99 take 20/1; from 4 base 50 free 0 take 1/20;");
        int[][] dues = {{9, 0, 50}, {10, 0, 50}, {11, 0, 49}, {12, 0, 47}, {13, 0, 46}, {20, 0, 35},
            {19, 1, 50}, {20, 1, 50}, {19, 2, 50}, {20, 2, 30}, {20, 3, 50}, {0, 4, 50}, {19, 4, 50}, {20, 4, 49}};
        for (int[] d : dues) {
            check.due("due of " + d[0] + " on day " + d[1], x.due(d[0], d[1]), d[2]);
        }
    }

    private static void dueDownToNothing() {
        LetterDebts x = Check.with("from 0 base 6 free 2 take 2/1; from 1 base 0 free 0 take 1/1; from 2 base 1 free 0 take 1/2;");
        int[][] dues = {{4, 0, 2}, {5, 0, 0}, {6, 0, 0}, {20, 0, 0}, {0, 1, 0}, {1, 1, 0}, {20, 1, 0},
            {1, 2, 1}, {2, 2, 0}, {3, 2, 0}};
        for (int[] d : dues) {
            check.due("due of " + d[0] + " on day " + d[1], x.due(d[0], d[1]), d[2]);
        }
    }

    private static void dueAtExtremes() {
        LetterDebts x = Check.with("from 0 base 99 free 0 take 20/1; from 1 base 99 free 0 take 20/20; from 2 base 99 free 0 take 1/20;");
        check.due("99 less 80", x.due(4, 0), 19);
        check.due("99 less 100", x.due(5, 0), 0);
        check.due("99 less 400", x.due(20, 0), 0);
        check.due("99 less 20", x.due(20, 1), 79);
        check.due("99 less 1", x.due(20, 2), 98);
        check.due("99 less 19 by 20", x.due(19, 2), 99);
    }
}
