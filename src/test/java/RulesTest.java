/** Promises 1 to 5: a new object, THE TEXT, THE RULES, DUE. */
public final class RulesTest {
    private static final Check check = new Check();
    private static final String RULE = "from 0 base 9 free 2 take 1/1;";

    public static void main(String[] args) {
        newObject();
        type();
        clear();
        rulesTaken();
        rulesRefused();
        due();
        check.end();
    }

    private static void newObject() {
        LetterDebts x = new LetterDebts();
        for (int what = 0; what <= 10; what++) {
            check.due("new count " + what, x.count(what), 0);
        }
        check.due("new trace", x.trace(), 0);
        for (int p = 0; p < 6; p++) {
            check.due("new could", x.could(p, 200), 1);
            check.due("new stands", x.stands(p, 0), 1);
            for (int what = 0; what < 4; what++) {
                check.due("new owed", x.owed(p, 0, what), 0);
            }
            for (int f = 0; f < 10; f++) {
                check.due("new told", x.pay(p, f, 0, 0), 0);
                check.due("new truth", x.pay(p, f, 1, 0), 0);
                check.due("new span", x.span(p, 0, f, 0), Check.STATE);
            }
            check.due("new lives", x.place(p, 0, 0), 0);
            check.due("new known", x.place(p, 1, 0), 0);
            check.due("new tells", x.tells(p, 0), Check.NONE);
            check.due("new settles", x.settles(p, 0, 1), 0);
        }
        check.due("new about", x.about(0, 0), Check.BAD);
        check.due("new post", x.post(0, 0), Check.BAD);
        check.due("new back 0", x.back(0), Check.STATE);
        check.due("new back 1", x.back(1), Check.STATE);
        check.due("new due", x.due(0, 200), 0);
    }

    private static void type() {
        LetterDebts x = new LetterDebts();
        check.due("type 0", x.type(65, 0), Check.BAD);
        check.due("type -1", x.type(65, -1), Check.BAD);
        check.due("type 9", x.type(65, 9), Check.BAD);
        check.due("type low", x.type(65, Integer.MIN_VALUE), Check.BAD);
        check.due("nothing typed", x.count(7), 0);
        // "from" in the lowest four bytes: what is above them does not count.
        check.due("type from", x.type(0x7A7A7A7A66726F6DL, 4), 4);
        Check.typed(x, " 0 base 7 free 0 take 1/1;");
        check.due("rules of it", x.rules(), 1);
        check.due("due of it", x.due(0, 0), 7);
        for (int i = 0; i < 37; i++) {
            x.type(0x2020202020202020L, 8);
        }
        check.due("room for 4", x.type(-1L, 5), Check.FULL);
        check.due("bad ahead of full", x.type(-1L, 9), Check.BAD);
        check.due("296 stand", x.count(7), 296);
        check.due("the last 4", x.type(0x20202020L, 4), 300);
        check.due("no more", x.type(32, 1), Check.FULL);
        check.due("blanks alone", x.rules(), 0);
        check.due("empty then", x.count(7), 0);
    }

    private static void clear() {
        LetterDebts x = new LetterDebts();
        check.due("clear none", x.clear(), 0);
        x.type(0L, 8);
        check.due("clear 8", x.clear(), 8);
        check.due("cleared", x.clear(), 0);
        check.due("rules of nothing", x.rules(), 0);
    }

    private static void rulesTaken() {
        LetterDebts x = new LetterDebts();
        check.due("plain", Check.ruled(x, RULE), 1);
        check.due("count 0", x.count(0), 1);
        check.due("blanks all over", Check.ruled(x, "   from   0 base 9 free 2 take 1  /  1  ;  "), 1);
        check.due("no blanks", Check.ruled(x, "from0base9free2take1/1;"), 1);
        check.due("edges", Check.ruled(x, "from 200 base 99 free 99 take 20/20;"), 1);
        check.due("edges below", Check.ruled(x, "from 0 base 0 free 0 take 1/1;"), 1);
        check.due("two", Check.ruled(x, RULE + "from 1 base 0 free 0 take 1/1;"), 2);
        check.due("six", Check.ruled(x, many(6)), 6);
        check.due("none, and those ahead are gone", Check.ruled(x, ""), 0);
        check.due("count none", x.count(0), 0);
        check.due("due of none", x.due(0, 200), 0);
    }

    private static String many(int n) {
        StringBuilder s = new StringBuilder();
        for (int i = 0; i < n; i++) {
            s.append("from ").append(i).append(" base 9 free 2 take 1/1;");
        }
        return s.toString();
    }

    private static void rulesRefused() {
        fault("from", 4);
        fault("from ", 5);
        fault("from 0 base 9 free 2 take 1/1", 29);
        fault("from 0 base 9 free 2 take 1/1  ", 31);
        fault(RULE + "from", 34);
        fault("fro 0 base", 0);
        fault("fromm 0 base", 0);
        fault("From 0 base", 0);
        fault("  form 0 base", 2);
        fault("froma 0", 0);
        fault("fromz 0", 0);
        fault("fromA 0", 0);
        fault("fromZ 0", 0);
        fault("from@ 0", 4);
        fault("from[ 0", 4);
        fault("from` 0", 4);
        fault("from{ 0", 4);
        fault("base 0", 0);
        fault("0 from", 0);
        fault(";", 0);
        fault("from from", 5);
        fault("from -1 base", 5);
        fault("from 201 base", 5);
        fault("from 1000 base", 5);
        fault("from 99999999999999999999 base", 5);
        fault("from 00 base", 5);
        fault("from 05 base", 5);
        fault("from 0 bases 9", 7);
        fault("from 0 base 100 free", 12);
        fault("from 0 base 9 free 100 take", 19);
        fault("from 0 base 9 free 2 take 0/1;", 26);
        fault("from 0 base 9 free 2 take 21/1;", 26);
        fault("from 0 base 9 free 2 take 1/0;", 28);
        fault("from 0 base 9 free 2 take 1/21;", 28);
        fault("from 0 base 9 free 2 take 1;", 27);
        fault("from 0 base 9 free 2 take 1//1;", 28);
        fault("from 0 base 9 free 2 take 1/1 from", 30);
        fault("from 0 base 9 free 2 take 1/1;;", 30);
        fault("from 0, base", 6);
        fault("from\t0", 4);
        fault("from 0 base 9 free 2 take 1/1;" + RULE, 35);
        fault("from 5 base 9 free 2 take 1/1;from 4 base", 35);
        fault(many(7), 180);
        fault(many(6) + " x", 181);
        fault("\u00c8", 0);
        fault("from\u00e9", 4);
        fault("from 1a base", 6);
    }

    /** Refused at this place, and nothing changes: neither the text nor the rules. */
    private static void fault(String text, int place) {
        LetterDebts x = Check.with("from 3 base 44 free 1 take 1/1;");
        Check.typed(x, text);
        check.due("fault of " + text, x.rules(), -10 - place);
        check.due("the text of " + text, x.count(7), text.length());
        check.due("again " + text, x.rules(), -10 - place);
        check.due("the rules ahead of " + text, x.due(0, 3), 44);
        check.due("how many ahead of " + text, x.count(0), 1);
        check.due("clear " + text, x.clear(), text.length());
    }

    private static void due() {
        LetterDebts x = Check.with("from 2 base 30 free 4 take 1/2; from 9 base 20 free 0 take 20/7; from 200 base 1 free 99 take 20/1;");
        check.due("ahead of all", x.due(0, 1), 0);
        check.due("on its day", x.due(0, 2), 30);
        check.due("up to the next", x.due(0, 8), 30);
        check.due("the next", x.due(0, 9), 20);
        check.due("till the last", x.due(0, 199), 20);
        check.due("the last", x.due(20, 200), 1);
        check.due("free", x.due(4, 2), 30);
        check.due("half is rounded down", x.due(5, 2), 30);
        check.due("a whole", x.due(6, 2), 29);
        check.due("most", x.due(20, 2), 22);
        check.due("20 by 7", x.due(4, 9), 9);
        check.due("0 at least", x.due(20, 9), 0);
        check.due("0 just", x.due(7, 9), 0);
        check.due("ahead of 0", x.due(6, 9), 3);
        check.due("pay -1", x.due(-1, 9), Check.BAD);
        check.due("pay 21", x.due(21, 9), Check.BAD);
        check.due("day -1", x.due(0, -1), Check.BAD);
        check.due("day 201", x.due(0, 201), Check.BAD);
    }
}
