import java.util.TreeSet;
import java.util.Set;

/**
 * Every number that a call takes, at both ends of its range, one step inside
 * and one step beyond; beyond it is BAD and nothing changes. Numbers that would
 * be fine if their higher bits were dropped are BAD too.
 */
public final class RangesTest {
    private static final Check check = new Check();
    private static final Unchanged busy = new Unchanged(check, "busy", Scenes::busy);
    private static final Unchanged fresh = new Unchanged(check, "fresh", Scenes::fresh);
    private static final Unchanged full = new Unchanged(check, "full", Scenes::full);

    /** A call with one number that may be any. */
    interface Call {
        int with(LetterDebts x, int v);
    }

    public static void main(String[] args) {
        rules();
        persons();
        whatCouldBe();
        debts();
        letters();
        kinds();
        noneSoFar();
        asManyAsThereMayBe();
        sumsBySpan();
        check.end();
    }

    private static void range(String what, int low, int high, Call call) {
        range(busy, what, low, high, call);
    }

    private static void range(Unchanged scene, String what, int low, int high, Call call) {
        Set<Integer> inside = new TreeSet<>();
        for (int v : new int[] {low, low + 1, high - 1, high}) {
            if (v >= low && v <= high) {
                inside.add(v);
            }
        }
        for (int v : inside) {
            check.holds(what + " " + v + " is in its range", call.with(scene.made(), v) != Check.BAD);
        }
        int[] beyond = {low - 1, high + 1, -high - 2, low + 256, low + 65536, low + Integer.MIN_VALUE,
            Integer.MIN_VALUE, Integer.MAX_VALUE};
        for (int v : beyond) {
            if (v < low || v > high) {
                scene.refused(what + " " + v, x -> call.with(x, v), Check.BAD);
            }
        }
    }

    private static void rules() {
        range("type n", 1, 8, (x, v) -> x.type(0x2020202020202020L, v));
        range("due pay", 0, 20, (x, v) -> x.due(v, 3));
        range("due day", 0, 200, (x, v) -> x.due(3, v));
    }

    private static void persons() {
        range("pay person", 0, 5, (x, v) -> x.pay(v, 0, 0, 1));
        range("pay fortnight", 0, 9, (x, v) -> x.pay(0, v, 0, 1));
        range("pay what", 0, 1, (x, v) -> x.pay(0, 0, v, 1));
        range("pay told", 0, 20, (x, v) -> x.pay(0, 0, 0, v));
        range("pay true", 0, 20, (x, v) -> x.pay(0, 0, 1, v));
        range("firm person", 0, 5, (x, v) -> x.firm(v, 9, 9, 1));
        range("firm from", 0, 9, (x, v) -> x.firm(2, v, 9, 1));
        range("firm to", 0, 9, (x, v) -> x.firm(2, 0, v, 1));
        range("firm from, to its end", 0, 3, (x, v) -> x.firm(2, v, 3, 1));
        range("firm to, from its beginning", 4, 9, (x, v) -> x.firm(2, 4, v, 1));
        range("slip person", 0, 5, (x, v) -> x.slip(v, 0, 10));
        range("slip fortnight", 0, 9, (x, v) -> x.slip(0, v, 10));
        range("slip pay", 0, 20, (x, v) -> x.slip(0, 0, v));
    }

    private static void whatCouldBe() {
        range("could person", 0, 5, (x, v) -> x.could(v, 3));
        range("could day", 0, 200, (x, v) -> x.could(0, v));
        range("owed person", 0, 5, (x, v) -> x.owed(v, 3, 2));
        range("owed day", 0, 200, (x, v) -> x.owed(0, v, 2));
        range("owed what", 0, 3, (x, v) -> x.owed(0, 3, v));
        range("stands person", 0, 5, (x, v) -> x.stands(v, 3));
        range("stands day", 0, 200, (x, v) -> x.stands(0, v));
        range("span person", 0, 5, (x, v) -> x.span(v, 3, 0, 0));
        range("span day", 0, 200, (x, v) -> x.span(0, v, 0, 0));
        range("span fortnight", 0, 9, (x, v) -> x.span(0, 3, v, 0));
        range("span what", 0, 1, (x, v) -> x.span(0, 3, 0, v));
        range("settles person", 0, 5, (x, v) -> x.settles(v, 3, 0));
        range("settles day", 0, 200, (x, v) -> x.settles(0, v, 0));
        range("settles what", 0, 1, (x, v) -> x.settles(0, 3, v));
        range("tells person", 0, 5, (x, v) -> x.tells(v, 3));
        range("tells day", 0, 200, (x, v) -> x.tells(0, v));
    }

    private static void debts() {
        int last = Scenes.BUSY_DEBTS - 1;
        range("debt person", 0, 5, (x, v) -> x.debt(v, 2));
        range("debt by", 0, 2, (x, v) -> x.debt(0, v));
        range("hold person", 0, 5, (x, v) -> x.hold(v, 10, 1, 1));
        range("hold pay", 0, 999, (x, v) -> x.hold(0, v, 1, 1));
        range("hold part of 20", 1, 20, (x, v) -> x.hold(0, 10, v, 20));
        range("hold part of 7", 1, 7, (x, v) -> x.hold(0, 10, v, 7));
        range("hold part of 1", 1, 1, (x, v) -> x.hold(0, 10, v, 1));
        range("hold of", 1, 20, (x, v) -> x.hold(0, 10, 1, v));
        range("hold 7 of", 7, 20, (x, v) -> x.hold(0, 10, 7, v));
        range("set debt", 0, last, (x, v) -> x.set(v));
        range("about debt", 0, last, (x, v) -> x.about(v, 1));
        range("about what", 0, 6, (x, v) -> x.about(0, v));
        range("right debt", 0, last, (x, v) -> x.right(v, 3));
        range("right day", 0, 200, (x, v) -> x.right(0, v));
    }

    private static void letters() {
        range("place person", 0, 5, (x, v) -> x.place(v, 0, 50));
        range("place what", 0, 1, (x, v) -> x.place(0, v, 50));
        range("place lived at", 0, 99, (x, v) -> x.place(0, 0, v));
        range("place known", 0, 99, (x, v) -> x.place(0, 1, v));
        range("letter debt", 0, Scenes.BUSY_DEBTS - 1, (x, v) -> x.letter(v));
        range("post letter", 0, Scenes.BUSY_LETTERS - 1, (x, v) -> x.post(v, 0));
        range("post what", 0, 3, (x, v) -> x.post(0, v));
        range("call person", 0, 5, (x, v) -> x.call(v, 30));
        range("call minutes", 1, 60, (x, v) -> x.call(0, v));
    }

    private static void kinds() {
        range("weight kind", 0, 7, (x, v) -> x.weight(v, 0, 0));
        range("weight person", 0, 5, (x, v) -> x.weight(7, v, 0));
        range("weight fortnight", 0, 9, (x, v) -> x.weight(7, 0, v));
        range("keep image", 0, 1, (x, v) -> x.keep(v));
        range("back image", 0, 1, (x, v) -> x.back(v));
        range("count what", 0, 10, (x, v) -> x.count(v));
    }

    /** Where there are none, number 0 is none such. */
    private static void noneSoFar() {
        fresh.refused("set 0", x -> x.set(0), Check.BAD);
        fresh.refused("about 0", x -> x.about(0, 0), Check.BAD);
        fresh.refused("right 0", x -> x.right(0, 0), Check.BAD);
        fresh.refused("letter 0", x -> x.letter(0), Check.BAD);
        fresh.refused("post 0", x -> x.post(0, 0), Check.BAD);
    }

    private static void asManyAsThereMayBe() {
        range(full, "about debt of 20", 0, 19, (x, v) -> x.about(v, 1));
        range(full, "right debt of 20", 0, 19, (x, v) -> x.right(v, 1));
        range(full, "set debt of 20", 0, 19, (x, v) -> x.set(v));
        range(full, "post letter of 30", 0, 29, (x, v) -> x.post(v, 2));
        range(full, "letter of 20 debts", 0, 19, (x, v) -> x.letter(v));
    }

    /** A SUM is 20 times the span's fortnights at most, wherever the span is. */
    private static void sumsBySpan() {
        for (int length = 1; length <= 10; length++) {
            int to = length - 1;
            range(fresh, "sum of the first " + length, 0, 20 * length, (x, v) -> x.firm(3, 0, to, v));
            range(fresh, "sum of the last " + length, 0, 20 * length, (x, v) -> x.firm(3, 9 - to, 9, v));
        }
    }
}
